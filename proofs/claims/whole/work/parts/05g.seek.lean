/-! ===== the reference's list, kept sound; it seeks ===== -/
def lOK (s : mS) (P L : Nat) : Prop := s 18 0 = nI L ∧ L ≤ P ∧ (∀ k, k < L → ∃ p, p < P ∧ s 17 k = nI p) ∧ (∀ j k, j < L → k < L → s 17 j = s 17 k → j = k)
def inL (s : mS) (L : Nat) (v : Int32) : Prop := ∃ j, j < L ∧ s 17 j = v
theorem lOK_o {s s2 : mS} {P L : Nat} (h : lOK s P L) (h1 : ∀ j, s2 17 j = s 17 j) (h2 : s2 18 0 = s 18 0) : lOK s2 P L := by
  obtain ⟨a, b, c, d⟩ := h
  refine ⟨h2.trans a, b, fun k hk => ?_, fun j k hj hk e => ?_⟩
  · rw [h1]; exact c k hk
  · rw [h1, h1] at e; exact d j k hj hk e
theorem inL_o {s s2 : mS} {L : Nat} {v : Int32} (h : inL s L v) (h1 : ∀ j, s2 17 j = s 17 j) : inL s2 L v := by
  obtain ⟨j, a, b⟩ := h
  exact ⟨j, a, (h1 j).trans b⟩
theorem inL_pl {s : mS} {L : Nat} {v : Int32} (h : inL s L v) : ∃ K, K < L ∧ pl s v L 0 = nI K ∧ s 17 K = v := by
  obtain ⟨j, a, b⟩ := h
  obtain ⟨K, _, h2, h3, h4⟩ := pl_in s v L 0 ⟨j, by omega, by omega, b⟩
  exact ⟨K, by omega, h3, h4⟩
theorem inL_not {s : mS} {L : Nat} {v : Int32} (h : ¬ inL s L v) : pl s v L 0 = -1 :=
  pl_out s v L 0 (fun j _ b e => h ⟨j, by omega, e⟩)
theorem nI_nm {n : Nat} (h : n < 2 ^ 31) : ¬ nI n = -1 := by
  intro e
  have := nI_toInt h
  rw [e] at this
  have h2 : (-1 : Int32).toInt = -1 := by decide
  omega
theorem inL_iff {s : mS} {P L : Nat} (h : lOK s P L) (hP : P ≤ 60) {v : Int32} : inL s L v ↔ ¬ pl s v L 0 = -1 := by
  constructor
  · intro q
    obtain ⟨K, a, b, _⟩ := inL_pl q
    rw [b]
    have := h.2.1
    exact nI_nm (by omega)
  · intro q
    exact Classical.byContradiction (fun k => q (inL_not k))
theorem mvS_17 (s : mS) (p L K : Nat) {j : Nat} (hj : j < L) : mvS s p L K 17 j = if j = L - 1 then nI p else if K ≤ j then s 17 (j + 1) else s 17 j := by
  unfold mvS
  rw [su_other _ _ (by decide)]
  simp only [su]
  by_cases a : j = L - 1
  · simp [a]
  · rw [if_neg (by omega), if_neg (by omega), if_neg a, tkS_17]
    by_cases b : K ≤ j
    · rw [if_pos (by omega), if_pos b]
    · rw [if_neg (by omega), if_neg b]
theorem mvS_o (s : mS) (p L K : Nat) {k : Nat} (h1 : k ≠ 17) (h2 : k ≠ 18) (j : Nat) : mvS s p L K k j = s k j := by
  unfold mvS
  rw [su_other _ _ h2, su_other _ _ h1, su_other _ _ h2, tkS_o _ h1]
theorem mvS_18 (s : mS) (p K : Nat) {L : Nat} (hL : 0 < L) : mvS s p L K 18 0 = nI L := by
  unfold mvS
  simp only [su, and_self, ↓reduceIte]
  congr 1
  omega
theorem lOK_mv {s : mS} {P L K p : Nat} (h : lOK s P L) (hK : K < L) (hp : s 17 K = nI p) (hpP : p < P) : lOK (mvS s p L K) P L := by
  obtain ⟨a, b, c, d⟩ := h
  refine ⟨mvS_18 _ _ _ (by omega), b, fun k hk => ?_, fun j k hj hk e => ?_⟩
  · rw [mvS_17 _ _ _ _ hk]
    split
    · exact ⟨p, hpP, rfl⟩
    · split
      · exact c _ (by omega)
      · exact c _ (by omega)
  · rw [mvS_17 _ _ _ _ hj, mvS_17 _ _ _ _ hk, ← hp] at e
    by_cases j1 : j = L - 1 <;> by_cases k1 : k = L - 1 <;> by_cases j2 : K ≤ j <;> by_cases k2 : K ≤ k <;> simp only [j1, k1, j2, k2, if_true, if_false] at e
    all_goals first
      | omega
      | (have := d _ _ (by omega) (by omega) e; omega)
theorem inL_mv {s : mS} {L K p : Nat} {v : Int32} (hK : K < L) (hp : s 17 K = nI p) (h : inL s L v) : inL (mvS s p L K) L v := by
  obtain ⟨j, hj, e⟩ := h
  by_cases a : j = K
  · refine ⟨L - 1, by omega, ?_⟩
    rw [mvS_17 _ _ _ _ (by omega), if_pos rfl, ← hp, ← a, e]
  · by_cases b : j < K
    · refine ⟨j, hj, ?_⟩
      rw [mvS_17 _ _ _ _ hj, if_neg (by omega), if_neg (by omega), e]
    · refine ⟨j - 1, by omega, ?_⟩
      rw [mvS_17 _ _ _ _ (by omega), if_neg (by omega), if_pos (by omega), show j - 1 + 1 = j by omega, e]
/-- the list behind a boarding -/
theorem lOK_tk {s : mS} {P L K : Nat} (h : lOK s P L) (hK : K < L) : lOK (su (tkS s (L - 1 - K) K) 18 0 (nI (L - 1))) P (L - 1) := by
  obtain ⟨a, b, c, d⟩ := h
  have e : ∀ j, j < L - 1 → (su (tkS s (L - 1 - K) K) 18 0 (nI (L - 1))) 17 j = if K ≤ j then s 17 (j + 1) else s 17 j := by
    intro j hj
    rw [su_other _ _ (by decide), tkS_17]
    by_cases b : K ≤ j
    · rw [if_pos (by omega), if_pos b]
    · rw [if_neg (by omega), if_neg b]
  refine ⟨by simp [su], by omega, fun k hk => ?_, fun j k hj hk q => ?_⟩
  · rw [e _ hk]
    split
    · exact c _ (by omega)
    · exact c _ (by omega)
  · rw [e _ hj, e _ hk] at q
    by_cases j2 : K ≤ j <;> by_cases k2 : K ≤ k <;> simp only [j2, k2, if_true, if_false] at q
    all_goals (have := d _ _ (by omega) (by omega) q; omega)
theorem inL_tk {s : mS} {L K : Nat} {v : Int32} (hK : K < L) (hv : s 17 K ≠ v) (h : inL s L v) : inL (su (tkS s (L - 1 - K) K) 18 0 (nI (L - 1))) (L - 1) v := by
  obtain ⟨j, hj, e⟩ := h
  have hjK : j ≠ K := fun q => hv (by rw [← q]; exact e)
  by_cases b : j < K
  · refine ⟨j, by omega, ?_⟩
    rw [su_other _ _ (by decide), tkS_17, if_neg (by omega), e]
  · refine ⟨j - 1, by omega, ?_⟩
    rw [su_other _ _ (by decide), tkS_17, if_pos (by omega), show j - 1 + 1 = j by omega, e]
/-- f_asks elsewhere -/
theorem fa_o (s : mS) (x p : Nat) (w : Int32) (L K : Nat) {k : Nat} (h0 : k < 17 ∨ (18 < k ∧ k < 44) ∨ 48 < k) (j : Nat) : f_asks s x p w L K k j = s k j := by
  unfold f_asks
  split
  · rw [mvS_o _ _ _ _ (by omega) (by omega), msS_o _ _ _ _ (by omega), lgS_o _ _ _ _ (by omega) (by omega) (by omega) (by omega)]
  · rw [msS_o _ _ _ _ (by omega), lgS_o _ _ _ _ (by omega) (by omega) (by omega) (by omega)]
theorem lg_47 (s : mS) (x p : Nat) (w : Int32) : lgS s x p w 47 0 = s 47 0 + 1 := by
  unfold lgS
  split <;> simp [su]
theorem fa_47 (s : mS) (x p : Nat) (w : Int32) (L K : Nat) : f_asks s x p w L K 47 0 = s 47 0 + 1 := by
  unfold f_asks
  split
  · rw [mvS_o _ _ _ _ (by omega) (by omega), msS_o _ _ _ _ (by omega), lg_47]
  · rw [msS_o _ _ _ _ (by omega), lg_47]
theorem mlg_17 (s : mS) (x p : Nat) (w : Int32) (j : Nat) : msS (lgS s x p w) x p w 17 j = s 17 j := by
  rw [msS_o _ _ _ _ (by omega), lgS_o _ _ _ _ (by omega) (by omega) (by omega) (by omega)]
theorem mlg_18 (s : mS) (x p : Nat) (w : Int32) (j : Nat) : msS (lgS s x p w) x p w 18 j = s 18 j := by
  rw [msS_o _ _ _ _ (by omega), lgS_o _ _ _ _ (by omega) (by omega) (by omega) (by omega)]
theorem fa_lOK {s : mS} {P L K x p : Nat} {w : Int32} (h : lOK s P L) (hpP : p < P) (hw : w = 4 → K < L ∧ s 17 K = nI p) : lOK (f_asks s x p w L K) P L := by
  have h1 := lOK_o (s2 := msS (lgS s x p w) x p w) h (mlg_17 _ _ _ _) (mlg_18 _ _ _ _ _)
  unfold f_asks
  split
  · next e => exact lOK_mv h1 (hw e).1 ((mlg_17 _ _ _ _ _).trans (hw e).2) hpP
  · exact h1
theorem fa_inL {s : mS} {L K x p : Nat} {w v : Int32} (hw : w = 4 → K < L ∧ s 17 K = nI p) (hv : inL s L v) : inL (f_asks s x p w L K) L v := by
  have h1 := inL_o (s2 := msS (lgS s x p w) x p w) hv (mlg_17 _ _ _ _)
  unfold f_asks
  split
  · next e => exact inL_mv (hw e).1 ((mlg_17 _ _ _ _ _).trans (hw e).2) h1
  · exact h1
def kOK (s : mS) (P : Nat) : Prop := ∀ p, p < P → s 3 p = 0 ∨ s 3 p = 1 ∨ s 3 p = 2 ∨ s 3 p = 3 ∨ s 3 p = 4
section MD
variable {g : Nat × Nat × Nat} {m0 : Nat} {s : mS} {h : xH}
/-- the search of the line -/
def skS (x H : Nat) (free lead : Int32) (L : Nat) : Nat → Nat → mS → Int32 × mS
  | 0, _, s => (-1, s)
  | f + 1, k, s => if s 51 k = lead then skS x H free lead L f (k + 1) s
    else if y_asks s x (s 51 k).toNatClampNeg H free L = 0 then (s 51 k, f_asks s x (s 51 k).toNatClampNeg (y_asks s x (s 51 k).toNatClampNeg H free L) L (pl s (s 51 k) L 0).toNatClampNeg)
    else skS x H free lead L f (k + 1) (f_asks s x (s 51 k).toNatClampNeg (y_asks s x (s 51 k).toNatClampNeg H free L) L (pl s (s 51 k) L 0).toNatClampNeg)
theorem lp_seek {x H P L : Nat} {free lead : Int32} (hm : g.1 ≤ m0) (hx : x < 400) (hH : H < 9600) (hP : P ≤ 60) : ∀ (f k A : Nat) (s : mS), k + f = L → lOK s P L → kOK s P → s 47 0 = nI A → A + f < 2 ^ 31 → (∀ j, j < L → inL s L (s 51 j)) → Ev g 143 111 [some (.ref m0), some (.int (nI x)), some (.int (nI H)), some (.int lead), some (.int free), some (.int (nI L)), some (.int (nI k))] [] (mput m0 s h) (.inl (some (.int (skS x H free lead L f k s).1)), mput m0 (skS x H free lead L f k s).2 h) := by
  intro f
  induction f with
  | zero =>
    intro k A s hk hl hkk hA hA2 hli
    have h2 : nI L ≤ nI k := nI_le (by omega) (by have := hl.2.1; omega)
    simp only [e_X10_seek_111, e_X10_seek_113, e_X10_seek_115, e_X10_seek_118, e_X10_seek_119, e_X10_seek_122, e_X10_seek_124, e_X10_seek_125, e_X10_seek_126, e_X10_seek_129, e_X10_seek_132, e_X10_seek_133, e_X10_seek_134, e_X10_seek_135, e_X10_seek_138, e_X10_seek_140, e_X10_seek_141, e_X10_seek_142, e_X10_seek_147, e_X10_seek_150, e_X10_seek_151, e_X10_seek_154, e_X10_seek_156, e_X10_seek_157, e_X10_seek_158, e_X10_seek_161, e_X10_seek_164, e_X10_seek_165, e_X10_seek_113, e_X10_seek_115, e_X10_seek_118, e_X10_seek_119, e_X10_seek_122, e_X10_seek_124, e_X10_seek_125, e_X10_seek_126, e_X10_seek_129, e_X10_seek_132, e_X10_seek_133, e_X10_seek_134, e_X10_seek_135, e_X10_seek_138, e_X10_seek_140, e_X10_seek_141, e_X10_seek_142, e_X10_seek_147, e_X10_seek_150, e_X10_seek_151, e_X10_seek_154, e_X10_seek_156, e_X10_seek_157, e_X10_seek_158, e_X10_seek_161, e_X10_seek_164, e_X10_seek_165, nem, su_get, z1e0, z2e0, z3e0, z4e0, z5e0, z0e1, zme0, Nat.reduceEqDiff, not_true_eq_false, and_self, false_or, or_false, or_self,  bI_eq0, bI_eq1, i10, i20, i30, i00, ne_eq, Decidable.not_not, true_and, and_true, false_and, and_false, xrd_ref, xrd_null, xrd_rf, xid_int, xcat_int, xcat_ref, xcat_null, xcat_long, xcat_rf, xfit_int, xfit_0, xfit_1, xfit_ref, xfit_null, xfit_rf, not_false_eq_true, ↓reduceIte, z01_0, z01_1, bI_01, true_or, or_true, h2, skS]
  | succ f ih =>
    intro k A s hk hl hkk hA hA2 hli
    have hLP := hl.2.1
    have h2 : ¬ nI L ≤ nI k := nI_ge (by omega) (by omega)
    have hn_k : ¬ nI k < 0 := nI_pos (by omega)
    have hc_k : (nI k).toNatClampNeg = k := nI_clamp (by omega)
    have hb_k : ¬ 60 ≤ k := by omega
    obtain ⟨K, hKL, hK, hKp⟩ := inL_pl (hli k (by omega))
    obtain ⟨p, hp, ep⟩ := hl.2.2.1 K hKL
    rw [hKp] at ep
    have hcp : (nI p).toNatClampNeg = p := nI_clamp (by omega)
    have hcK : (nI K).toNatClampNeg = K := nI_clamp (by omega)
    rw [ep] at hK hKp
    rw [e_X10_seek_111 rfl]
    by_cases e : nI p = lead
    · have := ih (k + 1) A s (by omega) hl hkk hA (by omega) hli
      simp only [e_X10_seek_113, e_X10_seek_115, e_X10_seek_118, e_X10_seek_119, e_X10_seek_122, e_X10_seek_124, e_X10_seek_125, e_X10_seek_126, e_X10_seek_129, e_X10_seek_132, e_X10_seek_133, e_X10_seek_134, e_X10_seek_135, e_X10_seek_138, e_X10_seek_140, e_X10_seek_141, e_X10_seek_142, e_X10_seek_147, e_X10_seek_150, e_X10_seek_151, e_X10_seek_154, e_X10_seek_156, e_X10_seek_157, e_X10_seek_158, e_X10_seek_161, e_X10_seek_164, e_X10_seek_165, mO, mg_49, mp_49, mg_20, mr_20, mA_20, ml_20, me_20, mp_20, mg_8, mr_8, mA_8, ml_8, me_8, mp_8, mg_24, mr_24, mA_24, ml_24, me_24, mp_24, mg_18, mp_18, mg_51, mr_51, mA_51, ml_51, me_51, mp_51, mg_17, mr_17, mA_17, ml_17, me_17, mp_17, nem, su_get, z1e0, z2e0, z3e0, z4e0, z5e0, z0e1, zme0, Nat.reduceEqDiff, not_true_eq_false, and_self, false_or, or_false, or_self,  bI_eq0, bI_eq1, i10, i20, i30, i00, ne_eq, Decidable.not_not, true_and, and_true, false_and, and_false, xrd_ref, xrd_null, xrd_rf, xid_int, xcat_int, xcat_ref, xcat_null, xcat_long, xcat_rf, xfit_int, xfit_0, xfit_1, xfit_ref, xfit_null, xfit_rf, not_false_eq_true, ↓reduceIte, z01_0, z01_1, bI_01, true_or, or_true, h2, hn_k, hc_k, hb_k, nI_1, ep, e, skS, this]
    · have ha := md_asks (g := g) (m0 := m0) (h := h) (s := s) (x := x) (p := p) (H := H) (K := K) (free := free) hx (by omega) hH hl.1 (by omega) (hkk p hp) hA (by omega) (fun _ => ⟨hKL, hK⟩) hm
      by_cases d : y_asks s x p H free L = 0
      · rw [d] at ha
        simp only [e_X10_seek_113, e_X10_seek_115, e_X10_seek_118, e_X10_seek_119, e_X10_seek_122, e_X10_seek_124, e_X10_seek_125, e_X10_seek_126, e_X10_seek_129, e_X10_seek_132, e_X10_seek_133, e_X10_seek_134, e_X10_seek_135, e_X10_seek_138, e_X10_seek_140, e_X10_seek_141, e_X10_seek_142, e_X10_seek_147, e_X10_seek_150, e_X10_seek_151, e_X10_seek_154, e_X10_seek_156, e_X10_seek_157, e_X10_seek_158, e_X10_seek_161, e_X10_seek_164, e_X10_seek_165, c_X10_seek_144 _ ha, mO, mg_49, mp_49, mg_20, mr_20, mA_20, ml_20, me_20, mp_20, mg_8, mr_8, mA_8, ml_8, me_8, mp_8, mg_24, mr_24, mA_24, ml_24, me_24, mp_24, mg_18, mp_18, mg_51, mr_51, mA_51, ml_51, me_51, mp_51, mg_17, mr_17, mA_17, ml_17, me_17, mp_17, nem, su_get, z1e0, z2e0, z3e0, z4e0, z5e0, z0e1, zme0, Nat.reduceEqDiff, not_true_eq_false, and_self, false_or, or_false, or_self,  bI_eq0, bI_eq1, i10, i20, i30, i00, ne_eq, Decidable.not_not, true_and, and_true, false_and, and_false, xrd_ref, xrd_null, xrd_rf, xid_int, xcat_int, xcat_ref, xcat_null, xcat_long, xcat_rf, xfit_int, xfit_0, xfit_1, xfit_ref, xfit_null, xfit_rf, not_false_eq_true, ↓reduceIte, z01_0, z01_1, bI_01, true_or, or_true, h2, hn_k, hc_k, hb_k, nI_1, ep, hcp, hcK, hK, e, d, skS, fa_o s x p 0 L K (show 51 < 17 ∨ (18 < 51 ∧ 51 < 44) ∨ 48 < 51 by omega)]
      · have hw : y_asks s x p H free L = 4 → K < L ∧ s 17 K = nI p := fun _ => ⟨hKL, hKp⟩
        have := ih (k + 1) (A + 1) (f_asks s x p (y_asks s x p H free L) L K) (by omega) (fa_lOK hl hp hw) (fun q hq => by rw [fa_o _ _ _ _ _ _ (by omega)]; exact hkk q hq) (by rw [fa_47, hA, nI_1]) (by omega) (fun j hj => by rw [fa_o _ _ _ _ _ _ (by omega)]; exact fa_inL hw (hli j hj))
        simp only [e_X10_seek_113, e_X10_seek_115, e_X10_seek_118, e_X10_seek_119, e_X10_seek_122, e_X10_seek_124, e_X10_seek_125, e_X10_seek_126, e_X10_seek_129, e_X10_seek_132, e_X10_seek_133, e_X10_seek_134, e_X10_seek_135, e_X10_seek_138, e_X10_seek_140, e_X10_seek_141, e_X10_seek_142, e_X10_seek_147, e_X10_seek_150, e_X10_seek_151, e_X10_seek_154, e_X10_seek_156, e_X10_seek_157, e_X10_seek_158, e_X10_seek_161, e_X10_seek_164, e_X10_seek_165, c_X10_seek_144 _ ha, mO, mg_49, mp_49, mg_20, mr_20, mA_20, ml_20, me_20, mp_20, mg_8, mr_8, mA_8, ml_8, me_8, mp_8, mg_24, mr_24, mA_24, ml_24, me_24, mp_24, mg_18, mp_18, mg_51, mr_51, mA_51, ml_51, me_51, mp_51, mg_17, mr_17, mA_17, ml_17, me_17, mp_17, nem, su_get, z1e0, z2e0, z3e0, z4e0, z5e0, z0e1, zme0, Nat.reduceEqDiff, not_true_eq_false, and_self, false_or, or_false, or_self,  bI_eq0, bI_eq1, i10, i20, i30, i00, ne_eq, Decidable.not_not, true_and, and_true, false_and, and_false, xrd_ref, xrd_null, xrd_rf, xid_int, xcat_int, xcat_ref, xcat_null, xcat_long, xcat_rf, xfit_int, xfit_0, xfit_1, xfit_ref, xfit_null, xfit_rf, not_false_eq_true, ↓reduceIte, z01_0, z01_1, bI_01, true_or, or_true, h2, hn_k, hc_k, hb_k, nI_1, ep, hcp, hcK, hK, e, d, skS, this]
/-- the line -/
def lnS : Nat → Nat → mS → mS
  | 0, _, s => s
  | f + 1, k, s => lnS f (k + 1) (su s 51 k (s 17 k))
theorem lnS_o (f k : Nat) (s : mS) {q : Nat} (hq : q ≠ 51) (j : Nat) : lnS f k s q j = s q j := by
  induction f generalizing k s with
  | zero => rfl
  | succ f ih => rw [lnS, ih, su_other _ _ hq]
theorem lnS_51 (f k : Nat) (s : mS) (j : Nat) : lnS f k s 51 j = if k ≤ j ∧ j < k + f then s 17 j else s 51 j := by
  induction f generalizing k s with
  | zero => rw [lnS, if_neg (by omega)]
  | succ f ih =>
    rw [lnS, ih, su_other _ _ (by decide)]
    by_cases a : j = k
    · subst a
      rw [if_neg (by omega), if_pos (by omega)]
      simp [su]
    · by_cases b : k + 1 ≤ j ∧ j < k + 1 + f
      · rw [if_pos b, if_pos (by omega)]
      · rw [if_neg b, if_neg (by omega)]
        simp [su, a]
theorem lp_line {x H P L : Nat} {free lead : Int32} {out : xR} (hm : g.1 ≤ m0) (hP : P ≤ 60) (hLP : L ≤ P) : ∀ (f k : Nat) (s : mS), k + f = L → Ev g 143 81 [some (.ref m0), some (.int (nI x)), some (.int (nI H)), some (.int lead), some (.int free), some (.int (nI L)), some (.int (nI k))] [] (mput m0 s h) out = Ev g 143 111 [some (.ref m0), some (.int (nI x)), some (.int (nI H)), some (.int lead), some (.int free), some (.int (nI L)), some (.int 0)] [] (mput m0 (lnS f k s) h) out := by
  intro f
  induction f with
  | zero =>
    intro k s hk
    have h2 : nI L ≤ nI k := nI_le (by omega) (by omega)
    rw [e_X10_seek_81 rfl]
    simp only [e_X10_seek_83, e_X10_seek_85, e_X10_seek_88, e_X10_seek_89, e_X10_seek_92, e_X10_seek_94, e_X10_seek_95, e_X10_seek_98, e_X10_seek_100, e_X10_seek_101, e_X10_seek_102, e_X10_seek_105, e_X10_seek_108, e_X10_seek_109, nem, su_get, z1e0, z2e0, z3e0, z4e0, z5e0, z0e1, zme0, Nat.reduceEqDiff, not_true_eq_false, and_self, false_or, or_false, or_self,  bI_eq0, bI_eq1, i10, i20, i30, i00, ne_eq, Decidable.not_not, true_and, and_true, false_and, and_false, xrd_ref, xrd_null, xrd_rf, xid_int, xcat_int, xcat_ref, xcat_null, xcat_long, xcat_rf, xfit_int, xfit_0, xfit_1, xfit_ref, xfit_null, xfit_rf, not_false_eq_true, ↓reduceIte, z01_0, z01_1, bI_01, true_or, or_true, h2, lnS]
  | succ f ih =>
    intro k s hk
    have h2 : ¬ nI L ≤ nI k := nI_ge (by omega) (by omega)
    have hn_k : ¬ nI k < 0 := nI_pos (by omega)
    have hc_k : (nI k).toNatClampNeg = k := nI_clamp (by omega)
    have hb_k : ¬ 60 ≤ k := by omega
    rw [e_X10_seek_81 rfl]
    simp only [e_X10_seek_83, e_X10_seek_85, e_X10_seek_88, e_X10_seek_89, e_X10_seek_92, e_X10_seek_94, e_X10_seek_95, e_X10_seek_98, e_X10_seek_100, e_X10_seek_101, e_X10_seek_102, e_X10_seek_105, e_X10_seek_108, e_X10_seek_109, mO, mg_49, mp_49, mg_20, mr_20, mA_20, ml_20, me_20, mp_20, mg_8, mr_8, mA_8, ml_8, me_8, mp_8, mg_24, mr_24, mA_24, ml_24, me_24, mp_24, mg_18, mp_18, mg_51, mr_51, mA_51, ml_51, me_51, mp_51, mg_17, mr_17, mA_17, ml_17, me_17, mp_17, nem, su_get, z1e0, z2e0, z3e0, z4e0, z5e0, z0e1, zme0, Nat.reduceEqDiff, not_true_eq_false, and_self, false_or, or_false, or_self,  bI_eq0, bI_eq1, i10, i20, i30, i00, ne_eq, Decidable.not_not, true_and, and_true, false_and, and_false, xrd_ref, xrd_null, xrd_rf, xid_int, xcat_int, xcat_ref, xcat_null, xcat_long, xcat_rf, xfit_int, xfit_0, xfit_1, xfit_ref, xfit_null, xfit_rf, not_false_eq_true, ↓reduceIte, z01_0, z01_1, bI_01, true_or, or_true, h2, hn_k, hc_k, hb_k, hm, hmk hm, nI_1, lnS, ih (k + 1) _ (show k + 1 + f = L by omega)]
/-- seats free -/
def frS (s : mS) (x : Nat) (lead : Int32) : Int32 := s 49 0 - if ¬ lead = -1 ∧ ¬ s 20 x = 0 ∧ s 8 lead.toNatClampNeg = 0 then 1 else 0
def skA (s : mS) (x H : Nat) (free : Int32) (L : Nat) : Int32 × mS := (if y_asks s x (s 24 x).toNatClampNeg H free L = 0 then s 24 x else -1, f_asks s x (s 24 x).toNatClampNeg (y_asks s x (s 24 x).toNatClampNeg H free L) L (pl s (s 24 x) L 0).toNatClampNeg)
def f_seek (s : mS) (x H : Nat) (lead : Int32) (L : Nat) : Int32 × mS := if s 24 x < 0 then skS x H (frS s x lead) lead L L 0 (lnS L 0 s) else skA s x H (frS s x lead) L
theorem md_seek {x H P L A : Nat} {lead : Int32} (hm : g.1 ≤ m0) (hx : x < 400) (hH : H < 9600) (hP : P ≤ 60) (hl : lOK s P L) (hkk : kOK s P) (hA : s 47 0 = nI A) (hA2 : A + 60 < 2 ^ 31) (hw : ¬ s 24 x < 0 → ∃ q, q < P ∧ s 24 x = nI q) (hle : lead = -1 ∨ ∃ q, q < 60 ∧ lead = nI q) : Ev g 143 0 [some (.ref m0), some (.int (nI x)), some (.int (nI H)), some (.int lead), none, none, none] [] (mput m0 s h) (.inl (some (.int (f_seek s x H lead L).1)), mput m0 (f_seek s x H lead L).2 h) := by
  have hLP := hl.2.1
  have hn_x : ¬ nI x < 0 := nI_pos (by omega)
  have hc_x : (nI x).toNatClampNeg = x := nI_clamp (by omega)
  have hb_x : ¬ 400 ≤ x := by omega
  have e1 : ∀ {out : xR}, Ev g 143 0 [some (.ref m0), some (.int (nI x)), some (.int (nI H)), some (.int lead), none, none, none] [] (mput m0 s h) out = Ev g 143 35 [some (.ref m0), some (.int (nI x)), some (.int (nI H)), some (.int lead), some (.int (frS s x lead)), none, none] [] (mput m0 s h) out := by
    intro out
    unfold frS
    rcases hle with e | ⟨q, hq, e⟩
    · subst e
      simp only [e_X10_seek_0, e_X10_seek_1, e_X10_seek_4, e_X10_seek_5, e_X10_seek_6, e_X10_seek_9, e_X10_seek_10, e_X10_seek_13, e_X10_seek_14, e_X10_seek_15, e_X10_seek_18, e_X10_seek_19, e_X10_seek_22, e_X10_seek_23, e_X10_seek_24, e_X10_seek_27, e_X10_seek_28, e_X10_seek_31, e_X10_seek_32, e_X10_seek_33, mO, mg_49, mp_49, mg_20, mr_20, mA_20, ml_20, me_20, mp_20, mg_8, mr_8, mA_8, ml_8, me_8, mp_8, mg_24, mr_24, mA_24, ml_24, me_24, mp_24, mg_18, mp_18, mg_51, mr_51, mA_51, ml_51, me_51, mp_51, mg_17, mr_17, mA_17, ml_17, me_17, mp_17, nem, su_get, z1e0, z2e0, z3e0, z4e0, z5e0, z0e1, zme0, Nat.reduceEqDiff, not_true_eq_false, and_self, false_or, or_false, or_self,  bI_eq0, bI_eq1, i10, i20, i30, i00, ne_eq, Decidable.not_not, true_and, and_true, false_and, and_false, xrd_ref, xrd_null, xrd_rf, xid_int, xcat_int, xcat_ref, xcat_null, xcat_long, xcat_rf, xfit_int, xfit_0, xfit_1, xfit_ref, xfit_null, xfit_rf, not_false_eq_true, ↓reduceIte, z01_0, z01_1, bI_01, true_or, or_true]
    · subst e
      have hn_q : ¬ nI q < 0 := nI_pos (by omega)
      have hc_q : (nI q).toNatClampNeg = q := nI_clamp (by omega)
      have hb_q : ¬ 60 ≤ q := by omega
      have h1 : ¬ nI q = -1 := nI_nm (by omega)
      by_cases a : s 20 x = 0
      · simp only [e_X10_seek_0, e_X10_seek_1, e_X10_seek_4, e_X10_seek_5, e_X10_seek_6, e_X10_seek_9, e_X10_seek_10, e_X10_seek_13, e_X10_seek_14, e_X10_seek_15, e_X10_seek_18, e_X10_seek_19, e_X10_seek_22, e_X10_seek_23, e_X10_seek_24, e_X10_seek_27, e_X10_seek_28, e_X10_seek_31, e_X10_seek_32, e_X10_seek_33, mO, mg_49, mp_49, mg_20, mr_20, mA_20, ml_20, me_20, mp_20, mg_8, mr_8, mA_8, ml_8, me_8, mp_8, mg_24, mr_24, mA_24, ml_24, me_24, mp_24, mg_18, mp_18, mg_51, mr_51, mA_51, ml_51, me_51, mp_51, mg_17, mr_17, mA_17, ml_17, me_17, mp_17, nem, su_get, z1e0, z2e0, z3e0, z4e0, z5e0, z0e1, zme0, Nat.reduceEqDiff, not_true_eq_false, and_self, false_or, or_false, or_self,  bI_eq0, bI_eq1, i10, i20, i30, i00, ne_eq, Decidable.not_not, true_and, and_true, false_and, and_false, xrd_ref, xrd_null, xrd_rf, xid_int, xcat_int, xcat_ref, xcat_null, xcat_long, xcat_rf, xfit_int, xfit_0, xfit_1, xfit_ref, xfit_null, xfit_rf, not_false_eq_true, ↓reduceIte, z01_0, z01_1, bI_01, true_or, or_true, hn_x, hc_x, hb_x, hn_q, hc_q, hb_q, h1, a]
      · by_cases b : s 8 q = 0
        · simp only [e_X10_seek_0, e_X10_seek_1, e_X10_seek_4, e_X10_seek_5, e_X10_seek_6, e_X10_seek_9, e_X10_seek_10, e_X10_seek_13, e_X10_seek_14, e_X10_seek_15, e_X10_seek_18, e_X10_seek_19, e_X10_seek_22, e_X10_seek_23, e_X10_seek_24, e_X10_seek_27, e_X10_seek_28, e_X10_seek_31, e_X10_seek_32, e_X10_seek_33, mO, mg_49, mp_49, mg_20, mr_20, mA_20, ml_20, me_20, mp_20, mg_8, mr_8, mA_8, ml_8, me_8, mp_8, mg_24, mr_24, mA_24, ml_24, me_24, mp_24, mg_18, mp_18, mg_51, mr_51, mA_51, ml_51, me_51, mp_51, mg_17, mr_17, mA_17, ml_17, me_17, mp_17, nem, su_get, z1e0, z2e0, z3e0, z4e0, z5e0, z0e1, zme0, Nat.reduceEqDiff, not_true_eq_false, and_self, false_or, or_false, or_self,  bI_eq0, bI_eq1, i10, i20, i30, i00, ne_eq, Decidable.not_not, true_and, and_true, false_and, and_false, xrd_ref, xrd_null, xrd_rf, xid_int, xcat_int, xcat_ref, xcat_null, xcat_long, xcat_rf, xfit_int, xfit_0, xfit_1, xfit_ref, xfit_null, xfit_rf, not_false_eq_true, ↓reduceIte, z01_0, z01_1, bI_01, true_or, or_true, hn_x, hc_x, hb_x, hn_q, hc_q, hb_q, h1, a, b]
        · simp only [e_X10_seek_0, e_X10_seek_1, e_X10_seek_4, e_X10_seek_5, e_X10_seek_6, e_X10_seek_9, e_X10_seek_10, e_X10_seek_13, e_X10_seek_14, e_X10_seek_15, e_X10_seek_18, e_X10_seek_19, e_X10_seek_22, e_X10_seek_23, e_X10_seek_24, e_X10_seek_27, e_X10_seek_28, e_X10_seek_31, e_X10_seek_32, e_X10_seek_33, mO, mg_49, mp_49, mg_20, mr_20, mA_20, ml_20, me_20, mp_20, mg_8, mr_8, mA_8, ml_8, me_8, mp_8, mg_24, mr_24, mA_24, ml_24, me_24, mp_24, mg_18, mp_18, mg_51, mr_51, mA_51, ml_51, me_51, mp_51, mg_17, mr_17, mA_17, ml_17, me_17, mp_17, nem, su_get, z1e0, z2e0, z3e0, z4e0, z5e0, z0e1, zme0, Nat.reduceEqDiff, not_true_eq_false, and_self, false_or, or_false, or_self,  bI_eq0, bI_eq1, i10, i20, i30, i00, ne_eq, Decidable.not_not, true_and, and_true, false_and, and_false, xrd_ref, xrd_null, xrd_rf, xid_int, xcat_int, xcat_ref, xcat_null, xcat_long, xcat_rf, xfit_int, xfit_0, xfit_1, xfit_ref, xfit_null, xfit_rf, not_false_eq_true, ↓reduceIte, z01_0, z01_1, bI_01, true_or, or_true, hn_x, hc_x, hb_x, hn_q, hc_q, hb_q, h1, a, b]
  rw [e1]
  unfold f_seek
  generalize frS s x lead = free
  by_cases a : s 24 x < 0
  · have h3 := lp_seek (g := g) (m0 := m0) (h := h) (free := free) (lead := lead) hm hx hH hP L 0 A (lnS L 0 s) (by omega) (lOK_o hl (fun j => lnS_o _ _ _ (by decide) _) (lnS_o _ _ _ (by decide) _)) (fun q hq => by rw [lnS_o _ _ _ (by decide)]; exact hkk q hq) (by rw [lnS_o _ _ _ (by decide)]; exact hA) (by omega) (fun j hj => by
      rw [lnS_51, if_pos (by omega)]
      exact ⟨j, hj, lnS_o _ _ _ (by decide) _⟩)
    have h4 := fun out => lp_line (g := g) (m0 := m0) (h := h) (x := x) (H := H) (free := free) (lead := lead) (out := out) hm hP hLP L 0 s (by omega)
    rw [nI_0] at h3 h4
    simp only [e_X10_seek_35, e_X10_seek_36, e_X10_seek_39, e_X10_seek_40, e_X10_seek_41, e_X10_seek_44, e_X10_seek_45, e_X10_seek_46, e_X10_seek_47, e_X10_seek_50, e_X10_seek_51, e_X10_seek_52, e_X10_seek_53, e_X10_seek_58, e_X10_seek_61, e_X10_seek_62, e_X10_seek_65, e_X10_seek_66, e_X10_seek_67, e_X10_seek_70, e_X10_seek_71, e_X10_seek_72, e_X10_seek_73, e_X10_seek_76, e_X10_seek_78, e_X10_seek_79, mO, mg_49, mp_49, mg_20, mr_20, mA_20, ml_20, me_20, mp_20, mg_8, mr_8, mA_8, ml_8, me_8, mp_8, mg_24, mr_24, mA_24, ml_24, me_24, mp_24, mg_18, mp_18, mg_51, mr_51, mA_51, ml_51, me_51, mp_51, mg_17, mr_17, mA_17, ml_17, me_17, mp_17, nem, su_get, z1e0, z2e0, z3e0, z4e0, z5e0, z0e1, zme0, Nat.reduceEqDiff, not_true_eq_false, and_self, false_or, or_false, or_self,  bI_eq0, bI_eq1, i10, i20, i30, i00, ne_eq, Decidable.not_not, true_and, and_true, false_and, and_false, xrd_ref, xrd_null, xrd_rf, xid_int, xcat_int, xcat_ref, xcat_null, xcat_long, xcat_rf, xfit_int, xfit_0, xfit_1, xfit_ref, xfit_null, xfit_rf, not_false_eq_true, ↓reduceIte, z01_0, z01_1, bI_01, true_or, or_true, hn_x, hc_x, hb_x, a, hl.1, h4, h3]
  · obtain ⟨q, hq, eq⟩ := hw a
    have hcq : (nI q).toNatClampNeg = q := nI_clamp (by omega)
    have a' : ¬ nI q < 0 := by rw [← eq]; exact a
    have hK : y_asks s x q H free L = 4 → (pl s (nI q) L 0).toNatClampNeg < L ∧ pl s (nI q) L 0 = nI (pl s (nI q) L 0).toNatClampNeg := by
      intro e
      have h5 : ¬ pl s (nI q) L 0 = -1 := by
        intro h6
        unfold y_asks at e
        rw [if_pos ⟨a, h6⟩] at e
        exact absurd e (by decide)
      obtain ⟨K, k1, k2, _⟩ := inL_pl ((inL_iff hl hP).mpr h5)
      rw [k2, nI_clamp (by omega)]
      exact ⟨k1, rfl⟩
    have ha := md_asks (g := g) (m0 := m0) (h := h) (s := s) (x := x) (p := q) (H := H) (free := free) hx (by omega) hH hl.1 (by omega) (hkk q hq) hA (by omega) hK hm
    by_cases d : y_asks s x q H free L = 0
    · rw [d] at ha
      simp only [e_X10_seek_35, e_X10_seek_36, e_X10_seek_39, e_X10_seek_40, e_X10_seek_41, e_X10_seek_44, e_X10_seek_45, e_X10_seek_46, e_X10_seek_47, e_X10_seek_50, e_X10_seek_51, e_X10_seek_52, e_X10_seek_53, e_X10_seek_58, e_X10_seek_61, e_X10_seek_62, e_X10_seek_65, e_X10_seek_66, e_X10_seek_67, e_X10_seek_70, e_X10_seek_71, e_X10_seek_72, e_X10_seek_73, e_X10_seek_76, e_X10_seek_78, e_X10_seek_79, c_X10_seek_55 _ ha, mO, mg_49, mp_49, mg_20, mr_20, mA_20, ml_20, me_20, mp_20, mg_8, mr_8, mA_8, ml_8, me_8, mp_8, mg_24, mr_24, mA_24, ml_24, me_24, mp_24, mg_18, mp_18, mg_51, mr_51, mA_51, ml_51, me_51, mp_51, mg_17, mr_17, mA_17, ml_17, me_17, mp_17, nem, su_get, z1e0, z2e0, z3e0, z4e0, z5e0, z0e1, zme0, Nat.reduceEqDiff, not_true_eq_false, and_self, false_or, or_false, or_self,  bI_eq0, bI_eq1, i10, i20, i30, i00, ne_eq, Decidable.not_not, true_and, and_true, false_and, and_false, xrd_ref, xrd_null, xrd_rf, xid_int, xcat_int, xcat_ref, xcat_null, xcat_long, xcat_rf, xfit_int, xfit_0, xfit_1, xfit_ref, xfit_null, xfit_rf, not_false_eq_true, ↓reduceIte, z01_0, z01_1, bI_01, true_or, or_true, hn_x, hc_x, hb_x, a, a', eq, hcq, d, skA, fa_o s x q 0 L _ (show 24 < 17 ∨ (18 < 24 ∧ 24 < 44) ∨ 48 < 24 by omega)]
    · simp only [e_X10_seek_35, e_X10_seek_36, e_X10_seek_39, e_X10_seek_40, e_X10_seek_41, e_X10_seek_44, e_X10_seek_45, e_X10_seek_46, e_X10_seek_47, e_X10_seek_50, e_X10_seek_51, e_X10_seek_52, e_X10_seek_53, e_X10_seek_58, e_X10_seek_61, e_X10_seek_62, e_X10_seek_65, e_X10_seek_66, e_X10_seek_67, e_X10_seek_70, e_X10_seek_71, e_X10_seek_72, e_X10_seek_73, e_X10_seek_76, e_X10_seek_78, e_X10_seek_79, c_X10_seek_55 _ ha, mO, mg_49, mp_49, mg_20, mr_20, mA_20, ml_20, me_20, mp_20, mg_8, mr_8, mA_8, ml_8, me_8, mp_8, mg_24, mr_24, mA_24, ml_24, me_24, mp_24, mg_18, mp_18, mg_51, mr_51, mA_51, ml_51, me_51, mp_51, mg_17, mr_17, mA_17, ml_17, me_17, mp_17, nem, su_get, z1e0, z2e0, z3e0, z4e0, z5e0, z0e1, zme0, Nat.reduceEqDiff, not_true_eq_false, and_self, false_or, or_false, or_self,  bI_eq0, bI_eq1, i10, i20, i30, i00, ne_eq, Decidable.not_not, true_and, and_true, false_and, and_false, xrd_ref, xrd_null, xrd_rf, xid_int, xcat_int, xcat_ref, xcat_null, xcat_long, xcat_rf, xfit_int, xfit_0, xfit_1, xfit_ref, xfit_null, xfit_rf, not_false_eq_true, ↓reduceIte, z01_0, z01_1, bI_01, true_or, or_true, hn_x, hc_x, hb_x, a, a', eq, hcq, d, skA]
end MD
