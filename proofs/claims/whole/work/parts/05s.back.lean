/-! ===== the reference's back: into the list again ===== -/
theorem paS_17 (s : mS) (f i j : Nat) (hf : f ≤ i) : paS s f i 17 j = if i - f < j ∧ j ≤ i then s 17 (j - 1) else s 17 j := by
  induction f generalizing s i with
  | zero => rw [paS, if_neg (by omega)]
  | succ f ih =>
    have e : ∀ b, su s 17 i (s 17 (i - 1)) 17 b = if b = i then s 17 (i - 1) else s 17 b := fun b => by simp [su]
    rw [paS, ih _ _ (by omega), e, e]
    by_cases a : j = i
    · subst a
      rw [if_neg (by omega), if_pos rfl, if_pos (by omega)]
    · by_cases b : i - 1 - f < j ∧ j ≤ i - 1
      · rw [if_pos b, if_neg (by omega), if_pos (by omega)]
      · rw [if_neg b, if_neg a, if_neg (by omega)]
def ptS (s : mS) (p : Int32) (a L : Nat) : mS := su (su (paS s (L - a) L) 17 a p) 18 0 (nI (L + 1))
theorem ptS_o (s : mS) (p : Int32) (a L : Nat) {k : Nat} (h1 : k ≠ 17) (h2 : k ≠ 18) (j : Nat) : ptS s p a L k j = s k j := by
  unfold ptS
  rw [su_other _ _ h2, su_other _ _ h1, paS_o _ h1]
theorem ptS_17 (s : mS) (p : Int32) {a L : Nat} (ha : a ≤ L) (j : Nat) : ptS s p a L 17 j = if j = a then p else if a < j ∧ j ≤ L then s 17 (j - 1) else s 17 j := by
  unfold ptS
  rw [su_other _ _ (by decide)]
  have e : ∀ (t : mS) b, su t 17 a p 17 b = if b = a then p else t 17 b := fun t b => by simp [su]
  rw [e]
  split
  · rfl
  · rw [paS_17 _ _ _ _ (by omega)]
    by_cases b : a < j ∧ j ≤ L
    · rw [if_pos (by omega), if_pos b]
    · rw [if_neg (by omega), if_neg b]
theorem lOK_pt {s : mS} {P L p a : Nat} (hP : P ≤ 60) (h : lOK s P L) (ha : a ≤ L) (hp : p < P) (hn : ¬ inL s L (nI p)) : lOK (ptS s (nI p) a L) P (L + 1) := by
  have hap := (lOK_ap hP h hp hn).2.1
  obtain ⟨x1, x2, c, d⟩ := h
  refine ⟨by unfold ptS; simp [su], hap, fun k hk => ?_, fun j k hj hk q => ?_⟩
  · rw [ptS_17 _ _ ha]
    split
    · exact ⟨p, hp, rfl⟩
    · split
      · exact c _ (by omega)
      · exact c _ (by omega)
  · rw [ptS_17 _ _ ha, ptS_17 _ _ ha] at q
    have w : ∀ i, i < L → ¬ s 17 i = nI p := fun i hi e => hn ⟨i, hi, e⟩
    by_cases j1 : j = a <;> by_cases k1 : k = a <;> by_cases j2 : a < j ∧ j ≤ L <;> by_cases k2 : a < k ∧ k ≤ L <;> simp only [j1, k1, j2, k2, if_true, if_false, and_self] at q
    all_goals first
      | omega
      | exact absurd q.symm (w _ (by omega))
      | exact absurd q (w _ (by omega))
      | (have := d _ _ (by omega) (by omega) q; omega)
theorem inL_pt {s : mS} {L a : Nat} {p v : Int32} (ha : a ≤ L) (h : inL (ptS s p a L) (L + 1) v) : v = p ∨ inL s L v := by
  obtain ⟨j, hj, e⟩ := h
  rw [ptS_17 _ _ ha] at e
  by_cases j1 : j = a
  · rw [if_pos j1] at e
    exact Or.inl e.symm
  · rw [if_neg j1] at e
    by_cases j2 : a < j ∧ j ≤ L
    · rw [if_pos j2] at e
      exact Or.inr ⟨j - 1, by omega, e⟩
    · rw [if_neg j2] at e
      exact Or.inr ⟨j, by omega, e⟩
section MD
variable {g : Nat × Nat × Nat} {m0 : Nat} {s : mS} {h : xH}
/-- p comes back from ship x -/
def bkP (s : mS) (x p : Nat) : mS := su (if s 20 x = 0 then su s 8 p 0 else su (su s 8 p 1) 9 p (s 1 0)) 13 p (-1)
theorem bkP_o (s : mS) (x p : Nat) {k : Nat} (h1 : k ≠ 8) (h2 : k ≠ 9) (h3 : k ≠ 13) (j : Nat) : bkP s x p k j = s k j := by
  unfold bkP
  rw [su_other _ _ h3]
  split
  · exact su_other _ _ h1
  · rw [su_other _ _ h2, su_other _ _ h1]
def bkN (s : mS) (p : Nat) : Nat := (if s 16 p < s 18 0 then s 16 p else s 18 0).toNatClampNeg
def bkQ (s : mS) (x p : Nat) : mS := ptS (bkP s x p) (nI p) (bkN s p) (nL s)
theorem ev_bkQ {x p j q L P b : Nat} {k : Int32} {c : Nat → Int32} {a5 : Option Value} {out : xR} (hm : g.1 ≤ m0) (hP60 : P ≤ 60) (hx : x < 400) (hp : p < P) (hj : j < 3) (ep : c j = nI p) (hq : m0 + 41 < q) (hl : lOK s P L) (hn : ¬ inL s L (nI p)) (hb : s 16 p = nI b) (hb2 : b < 60) : Ev g 149 172 [some (.ref m0), some (.int (nI x)), some (.ref q), some (.int k), some (.int (nI j)), a5] [] (mput m0 s (tput q 3 c h)) out = Ev g 149 275 [some (.ref m0), some (.int (nI x)), some (.ref q), some (.int k), some (.int (nI j)), some (.int (nI p))] [] (mput m0 (bkQ s x p) (tput q 3 (cu c j (-1)) h)) out := by
  have hLP := hl.2.1
  have hn_x : ¬ nI x < 0 := nI_pos (by omega)
  have hc_x : (nI x).toNatClampNeg = x := nI_clamp (by omega)
  have hb_x : ¬ 400 ≤ x := by omega
  have hn_p : ¬ nI p < 0 := nI_pos (by omega)
  have hc_p : (nI p).toNatClampNeg = p := nI_clamp (by omega)
  have hb_p : ¬ 60 ≤ p := by omega
  have hn_j : ¬ nI j < 0 := nI_pos (by omega)
  have hc_j : (nI j).toNatClampNeg = j := nI_clamp (by omega)
  have hb_j : ¬ 3 ≤ j := by omega
  have nj : ¬ nI j = -1 := nI_nm (by omega)
  have hgq : g.1 ≤ q := by omega
  have hL1 : L < P := by
    have := (lOK_ap hP60 hl hp hn).2.1
    omega
  have e1 : ∀ {out : xR}, Ev g 149 172 [some (.ref m0), some (.int (nI x)), some (.ref q), some (.int k), some (.int (nI j)), a5] [] (mput m0 s (tput q 3 c h)) out = Ev g 149 241 [some (.ref m0), some (.int (nI x)), some (.ref q), some (.int k), some (.int (nI j)), some (.int (nI p))] [] (mput m0 (bkP s x p) (tput q 3 (cu c j (-1)) h)) out := by
    intro out
    unfold bkP
    by_cases a : s 20 x = 0
    · simp only [e_X10_back_172, e_X10_back_174, e_X10_back_175, e_X10_back_178, e_X10_back_181, e_X10_back_182, e_X10_back_184, e_X10_back_185, e_X10_back_187, e_X10_back_188, e_X10_back_190, e_X10_back_191, e_X10_back_192, e_X10_back_193, e_X10_back_196, e_X10_back_198, e_X10_back_199, e_X10_back_202, e_X10_back_203, e_X10_back_204, e_X10_back_207, e_X10_back_208, e_X10_back_211, e_X10_back_212, e_X10_back_213, e_X10_back_214, e_X10_back_217, e_X10_back_218, e_X10_back_219, e_X10_back_222, e_X10_back_223, e_X10_back_226, e_X10_back_228, e_X10_back_229, e_X10_back_232, e_X10_back_233, e_X10_back_234, e_X10_back_237, e_X10_back_239, e_X10_back_240, mO, mg_0, mp_0, mg_26, mr_26, mA_26, ml_26, me_26, mp_26, mg_27, mr_27, mA_27, ml_27, me_27, mp_27, mg_1, mp_1, mg_28, mr_28, mA_28, ml_28, me_28, mp_28, mg_29, mr_29, mA_29, ml_29, me_29, mp_29, mg_30, mr_30, mA_30, ml_30, me_30, mp_30, mg_16, mr_16, mA_16, ml_16, me_16, mp_16, mg_8, mr_8, mA_8, ml_8, me_8, mp_8, mg_20, mr_20, mA_20, ml_20, me_20, mp_20, mg_9, mr_9, mA_9, ml_9, me_9, mp_9, mg_13, mr_13, mA_13, ml_13, me_13, mp_13, mg_18, mp_18, nem, su_get, z1e0, z2e0, z3e0, z4e0, z5e0, z0e1, zme0, Nat.reduceEqDiff, not_true_eq_false, and_self, false_or, or_false, or_self,  bI_eq0, bI_eq1, i10, i20, i30, i00, ne_eq, Decidable.not_not, true_and, and_true, false_and, and_false, xrd_ref, xrd_null, xrd_rf, xid_int, xcat_int, xcat_ref, xcat_null, xcat_long, xcat_rf, xfit_int, xfit_0, xfit_1, xfit_ref, xfit_null, xfit_rf, not_false_eq_true, ↓reduceIte, z01_0, z01_1, bI_01, true_or, or_true, hn_x, hc_x, hb_x, hn_p, hc_p, hb_p, hn_j, hc_j, hb_j, nj, mt_A hq, mt_l hq, mt_e hq, mt_p hq, ep, hm, hmk hm, hgq, a]
    · simp only [e_X10_back_172, e_X10_back_174, e_X10_back_175, e_X10_back_178, e_X10_back_181, e_X10_back_182, e_X10_back_184, e_X10_back_185, e_X10_back_187, e_X10_back_188, e_X10_back_190, e_X10_back_191, e_X10_back_192, e_X10_back_193, e_X10_back_196, e_X10_back_198, e_X10_back_199, e_X10_back_202, e_X10_back_203, e_X10_back_204, e_X10_back_207, e_X10_back_208, e_X10_back_211, e_X10_back_212, e_X10_back_213, e_X10_back_214, e_X10_back_217, e_X10_back_218, e_X10_back_219, e_X10_back_222, e_X10_back_223, e_X10_back_226, e_X10_back_228, e_X10_back_229, e_X10_back_232, e_X10_back_233, e_X10_back_234, e_X10_back_237, e_X10_back_239, e_X10_back_240, mO, mg_0, mp_0, mg_26, mr_26, mA_26, ml_26, me_26, mp_26, mg_27, mr_27, mA_27, ml_27, me_27, mp_27, mg_1, mp_1, mg_28, mr_28, mA_28, ml_28, me_28, mp_28, mg_29, mr_29, mA_29, ml_29, me_29, mp_29, mg_30, mr_30, mA_30, ml_30, me_30, mp_30, mg_16, mr_16, mA_16, ml_16, me_16, mp_16, mg_8, mr_8, mA_8, ml_8, me_8, mp_8, mg_20, mr_20, mA_20, ml_20, me_20, mp_20, mg_9, mr_9, mA_9, ml_9, me_9, mp_9, mg_13, mr_13, mA_13, ml_13, me_13, mp_13, mg_18, mp_18, nem, su_get, z1e0, z2e0, z3e0, z4e0, z5e0, z0e1, zme0, Nat.reduceEqDiff, not_true_eq_false, and_self, false_or, or_false, or_self,  bI_eq0, bI_eq1, i10, i20, i30, i00, ne_eq, Decidable.not_not, true_and, and_true, false_and, and_false, xrd_ref, xrd_null, xrd_rf, xid_int, xcat_int, xcat_ref, xcat_null, xcat_long, xcat_rf, xfit_int, xfit_0, xfit_1, xfit_ref, xfit_null, xfit_rf, not_false_eq_true, ↓reduceIte, z01_0, z01_1, bI_01, true_or, or_true, hn_x, hc_x, hb_x, hn_p, hc_p, hb_p, hn_j, hc_j, hb_j, nj, mt_A hq, mt_l hq, mt_e hq, mt_p hq, ep, hm, hmk hm, hgq, a]
  rw [e1]
  have o : ∀ k i, 15 < k → bkP s x p k i = s k i := fun k i r => bkP_o s x p (by omega) (by omega) (by omega) i
  have o16 : bkP s x p 16 p = nI b := (o 16 p (by decide)).trans hb
  have o18 : bkP s x p 18 0 = nI L := (o 18 0 (by decide)).trans hl.1
  have eN : bkN s p = if b < L then b else L := by
    unfold bkN
    rw [hb, hl.1]
    by_cases d : b < L
    · rw [if_pos (nI_lt d (by omega)), if_pos d, nI_clamp (by omega)]
    · rw [if_neg (nI_nlt (by omega) (by omega)), if_neg d, nI_clamp (by omega)]
  unfold bkQ
  rw [eN, nL_eq hl hP60]
  generalize bkP s x p = s1 at o16 o18 ⊢
  unfold ptS
  by_cases d : b < L
  · have d' : ¬ nI L ≤ nI b := nI_ge d (by omega)
    have k1 := md_putAt (g := g) (m0 := m0) (h := tput q 3 (cu c j (-1)) h) (p := nI p) (a := b) o18 (by omega) (by omega) hm
    rw [if_pos d]
    simp only [e_X10_back_241, e_X10_back_242, e_X10_back_244, e_X10_back_245, e_X10_back_248, e_X10_back_250, e_X10_back_251, e_X10_back_252, e_X10_back_255, e_X10_back_258, e_X10_back_259, e_X10_back_262, e_X10_back_264, e_X10_back_265, e_X10_back_268, e_X10_back_269, c_X10_back_272 _ k1, mO, mg_0, mp_0, mg_26, mr_26, mA_26, ml_26, me_26, mp_26, mg_27, mr_27, mA_27, ml_27, me_27, mp_27, mg_1, mp_1, mg_28, mr_28, mA_28, ml_28, me_28, mp_28, mg_29, mr_29, mA_29, ml_29, me_29, mp_29, mg_30, mr_30, mA_30, ml_30, me_30, mp_30, mg_16, mr_16, mA_16, ml_16, me_16, mp_16, mg_8, mr_8, mA_8, ml_8, me_8, mp_8, mg_20, mr_20, mA_20, ml_20, me_20, mp_20, mg_9, mr_9, mA_9, ml_9, me_9, mp_9, mg_13, mr_13, mA_13, ml_13, me_13, mp_13, mg_18, mp_18, nem, su_get, z1e0, z2e0, z3e0, z4e0, z5e0, z0e1, zme0, Nat.reduceEqDiff, not_true_eq_false, and_self, false_or, or_false, or_self,  bI_eq0, bI_eq1, i10, i20, i30, i00, ne_eq, Decidable.not_not, true_and, and_true, false_and, and_false, xrd_ref, xrd_null, xrd_rf, xid_int, xcat_int, xcat_ref, xcat_null, xcat_long, xcat_rf, xfit_int, xfit_0, xfit_1, xfit_ref, xfit_null, xfit_rf, not_false_eq_true, ↓reduceIte, z01_0, z01_1, bI_01, true_or, or_true, hn_p, hc_p, hb_p, o16, o18, d']
  · have d' : nI L ≤ nI b := nI_le (by omega) (by omega)
    have k1 := md_putAt (g := g) (m0 := m0) (h := tput q 3 (cu c j (-1)) h) (p := nI p) (a := L) o18 (by omega) (by omega) hm
    rw [if_neg d]
    simp only [e_X10_back_241, e_X10_back_242, e_X10_back_244, e_X10_back_245, e_X10_back_248, e_X10_back_250, e_X10_back_251, e_X10_back_252, e_X10_back_255, e_X10_back_258, e_X10_back_259, e_X10_back_262, e_X10_back_264, e_X10_back_265, e_X10_back_268, e_X10_back_269, c_X10_back_272 _ k1, mO, mg_0, mp_0, mg_26, mr_26, mA_26, ml_26, me_26, mp_26, mg_27, mr_27, mA_27, ml_27, me_27, mp_27, mg_1, mp_1, mg_28, mr_28, mA_28, ml_28, me_28, mp_28, mg_29, mr_29, mA_29, ml_29, me_29, mp_29, mg_30, mr_30, mA_30, ml_30, me_30, mp_30, mg_16, mr_16, mA_16, ml_16, me_16, mp_16, mg_8, mr_8, mA_8, ml_8, me_8, mp_8, mg_20, mr_20, mA_20, ml_20, me_20, mp_20, mg_9, mr_9, mA_9, ml_9, me_9, mp_9, mg_13, mr_13, mA_13, ml_13, me_13, mp_13, mg_18, mp_18, nem, su_get, z1e0, z2e0, z3e0, z4e0, z5e0, z0e1, zme0, Nat.reduceEqDiff, not_true_eq_false, and_self, false_or, or_false, or_self,  bI_eq0, bI_eq1, i10, i20, i30, i00, ne_eq, Decidable.not_not, true_and, and_true, false_and, and_false, xrd_ref, xrd_null, xrd_rf, xid_int, xcat_int, xcat_ref, xcat_null, xcat_long, xcat_rf, xfit_int, xfit_0, xfit_1, xfit_ref, xfit_null, xfit_rf, not_false_eq_true, ↓reduceIte, z01_0, z01_1, bI_01, true_or, or_true, hn_p, hc_p, hb_p, o16, o18, d']
end MD
