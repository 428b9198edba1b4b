/-! ===== the reference's back ===== -/
def bkL (x : Nat) : Nat → (Nat → Int32) → mS → mS × (Nat → Int32)
  | 0, c, s => (s, c)
  | f + 1, c, s => if bkB s c 3 0 (-1) = -1 then bkL x f c s else bkL x f (cu c (bkB s c 3 0 (-1)).toNatClampNeg (-1)) (bkQ s x (c (bkB s c 3 0 (-1)).toNatClampNeg).toNatClampNeg)
/-- three that may come back -/
def bOK (s : mS) (c : Nat → Int32) (P L : Nat) : Prop := lOK s P L ∧ (∀ j, j < 3 → c j = -1 ∨ ∃ p b, p < P ∧ c j = nI p ∧ ¬ inL s L (nI p) ∧ b < 60 ∧ s 16 p = nI b) ∧ (∀ i j, i < 3 → j < 3 → ¬ c i = -1 → c i = c j → i = j)
theorem bOK_step {s : mS} {c : Nat → Int32} {P L x j p : Nat} (hP : P ≤ 60) (h : bOK s c P L) (hj : j < 3) (hp : p < P) (ep : c j = nI p) (hn : ¬ inL s L (nI p)) : bOK (bkQ s x p) (cu c j (-1)) P (L + 1) := by
  obtain ⟨hl, h2, h3⟩ := h
  have hLP := hl.2.1
  have o : ∀ k i, 15 < k → bkP s x p k i = s k i := fun k i r => bkP_o s x p (by omega) (by omega) (by omega) i
  have hl1 : lOK (bkP s x p) P L := lOK_o hl (fun i => o 17 i (by decide)) (o 18 0 (by decide))
  have hn1 : ¬ inL (bkP s x p) L (nI p) := fun q => hn (inL_o q (fun i => (o 17 i (by decide)).symm))
  have ha : bkN s p ≤ L := by
    unfold bkN
    rw [hl.1]
    split
    · next d =>
      by_cases z : s 16 p < 0
      · have : (s 16 p).toNatClampNeg = 0 := by
          have z2 := Int32.lt_iff_toInt_lt.mp z
          have h0 : (0 : Int32).toInt = 0 := by decide
          have hc : (s 16 p).toNatClampNeg = (s 16 p).toInt.toNat := rfl
          omega
        omega
      · obtain ⟨b, hb, e⟩ := nI_of z
        rw [e, nI_clamp hb]
        rw [e, nI_ltI hb (by omega)] at d
        omega
    · rw [nI_clamp (by omega)]
      exact Nat.le_refl _
  unfold bkQ
  rw [nL_eq hl hP]
  refine ⟨lOK_pt hP hl1 ha hp hn1, fun i hi => ?_, fun i k hi hk q r => ?_⟩
  · by_cases e : i = j
    · left
      simp [cu, e]
    · have ec : cu c j (-1) i = c i := by simp [cu, e]
      rw [ec]
      rcases h2 i hi with q | ⟨p2, b, q1, q2, q3, q4, q5⟩
      · exact Or.inl q
      · right
        refine ⟨p2, b, q1, q2, fun r => ?_, q4, ?_⟩
        · rcases inL_pt ha r with t | t
          · exact e (h3 i j hi hj (by rw [q2]; exact nI_nm (by omega)) (by rw [q2, ep, t]))
          · exact q3 (inL_o t (fun i => (o 17 i (by decide)).symm))
        · rw [ptS_o _ _ _ _ (by decide) (by decide), o 16 p2 (by decide)]
          exact q5
  · by_cases e : i = j
    · exact absurd (by simp [cu, e]) q
    · have ec : cu c j (-1) i = c i := by simp [cu, e]
      rw [ec] at q r
      by_cases e2 : k = j
      · have ek : cu c j (-1) k = -1 := by simp [cu, e2]
        rw [ek] at r
        exact absurd r q
      · have ek : cu c j (-1) k = c k := by simp [cu, e2]
        rw [ek] at r
        exact h3 i k hi hk q r
section MD
variable {g : Nat × Nat × Nat} {m0 : Nat} {s : mS} {h : xH}
theorem lp_back {x q P : Nat} (hm : g.1 ≤ m0) (hP60 : P ≤ 60) (hx : x < 400) (hq : m0 + 41 < q) : ∀ (f k L : Nat) (c : Nat → Int32) (s : mS) (a4 a5 : Option Value), k + f = 3 → bOK s c P L → Ev g 149 110 [some (.ref m0), some (.int (nI x)), some (.ref q), some (.int (nI k)), a4, a5] [] (mput m0 s (tput q 3 c h)) (.inl (some (.int 1)), mput m0 (bkL x f c s).1 (tput q 3 (bkL x f c s).2 h)) := by
  intro f
  induction f with
  | zero =>
    intro k L c s a4 a5 hk hb
    have : k = 3 := by omega
    subst this
    have h2 : (3 : Int32) ≤ nI 3 := by decide +kernel
    rw [e_X10_back_110 rfl]
    simp only [e_X10_back_111, e_X10_back_112, e_X10_back_115, e_X10_back_116, e_X10_back_118, e_X10_back_119, e_X10_back_275, e_X10_back_278, e_X10_back_281, e_X10_back_282, nem, su_get, z1e0, z2e0, z3e0, z4e0, z5e0, z0e1, zme0, Nat.reduceEqDiff, not_true_eq_false, and_self, false_or, or_false, or_self,  bI_eq0, bI_eq1, i10, i20, i30, i00, ne_eq, Decidable.not_not, true_and, and_true, false_and, and_false, xrd_ref, xrd_null, xrd_rf, xid_int, xcat_int, xcat_ref, xcat_null, xcat_long, xcat_rf, xfit_int, xfit_0, xfit_1, xfit_ref, xfit_null, xfit_rf, not_false_eq_true, ↓reduceIte, z01_0, z01_1, bI_01, true_or, or_true, h2, bkL]
  | succ f ih =>
    intro k L c s a4 a5 hk hb
    have h2 : ¬ (3 : Int32) ≤ nI k := by
      rw [show (3 : Int32) = nI 3 by decide +kernel]
      exact nI_ge (by omega) (by omega)
    have hc : ∀ j, j < 3 → pm (c j) := fun j hj => by
      rcases hb.2.1 j hj with q | ⟨p, b, q1, q2, _⟩
      · exact Or.inl q
      · exact Or.inr ⟨p, by omega, q2⟩
    have l1 := fun out => lp_bkB (g := g) (m0 := m0) (s := s) (h := h) (x := nI x) (k := nI k) (out := out) hq hc 3 0 (-1) (by omega) (Or.inl rfl)
    rw [nI_0] at l1
    rw [e_X10_back_110 rfl, bkL]
    simp only [e_X10_back_111, e_X10_back_112, e_X10_back_115, e_X10_back_116, e_X10_back_118, e_X10_back_119, nem, su_get, z1e0, z2e0, z3e0, z4e0, z5e0, z0e1, zme0, Nat.reduceEqDiff, not_true_eq_false, and_self, false_or, or_false, or_self,  bI_eq0, bI_eq1, i10, i20, i30, i00, ne_eq, Decidable.not_not, true_and, and_true, false_and, and_false, xrd_ref, xrd_null, xrd_rf, xid_int, xcat_int, xcat_ref, xcat_null, xcat_long, xcat_rf, xfit_int, xfit_0, xfit_1, xfit_ref, xfit_null, xfit_rf, not_false_eq_true, ↓reduceIte, z01_0, z01_1, bI_01, true_or, or_true, h2, l1]
    rcases bkB_in s c 3 0 (-1) (by omega) (Or.inl rfl) with e | ⟨j, hj, e, ej⟩
    · rw [e]
      have i1 := fun a4 a5 => ih (k + 1) L c s a4 a5 (by omega) hb
      simp only [e_X10_back_172, e_X10_back_174, e_X10_back_175, e_X10_back_178, e_X10_back_275, e_X10_back_278, nem, su_get, z1e0, z2e0, z3e0, z4e0, z5e0, z0e1, zme0, Nat.reduceEqDiff, not_true_eq_false, and_self, false_or, or_false, or_self,  bI_eq0, bI_eq1, i10, i20, i30, i00, ne_eq, Decidable.not_not, true_and, and_true, false_and, and_false, xrd_ref, xrd_null, xrd_rf, xid_int, xcat_int, xcat_ref, xcat_null, xcat_long, xcat_rf, xfit_int, xfit_0, xfit_1, xfit_ref, xfit_null, xfit_rf, not_false_eq_true, ↓reduceIte, z01_0, z01_1, bI_01, true_or, or_true, nI_1, i1]
    · obtain ⟨p, b, q1, q2, q3, q4, q5⟩ := (hb.2.1 j hj).resolve_left ej
      have nj : ¬ nI j = -1 := nI_nm (by omega)
      have hcj : (nI j).toNatClampNeg = j := nI_clamp (by omega)
      have hcp : (nI p).toNatClampNeg = p := nI_clamp (by omega)
      have i1 := fun a4 a5 => ih (k + 1) (L + 1) (cu c j (-1)) (bkQ s x p) a4 a5 (by omega) (bOK_step hP60 hb hj q1 q2 q3)
      rw [e, hcj, q2, hcp, if_neg nj, ev_bkQ hm hP60 hx q1 hj q2 hq hb.1 q3 q5 q4]
      simp only [e_X10_back_275, e_X10_back_278, nem, su_get, z1e0, z2e0, z3e0, z4e0, z5e0, z0e1, zme0, Nat.reduceEqDiff, not_true_eq_false, and_self, false_or, or_false, or_self,  bI_eq0, bI_eq1, i10, i20, i30, i00, ne_eq, Decidable.not_not, true_and, and_true, false_and, and_false, xrd_ref, xrd_null, xrd_rf, xid_int, xcat_int, xcat_ref, xcat_null, xcat_long, xcat_rf, xfit_int, xfit_0, xfit_1, xfit_ref, xfit_null, xfit_rf, not_false_eq_true, ↓reduceIte, z01_0, z01_1, bI_01, true_or, or_true, nI_1, i1]
def g_back (s : mS) (x : Nat) : Prop := s 26 x = 1 ∧ s 27 x = s 1 0
theorem md_back0 {x : Int32} (hm : g.1 ≤ m0) (hx : ¬ (0 ≤ x ∧ x < s 19 0)) : Ev g 149 0 [some (.ref m0), some (.int x), none, none, none, none] [] (mput m0 s h) (.inl (some (.int 0)), mput m0 (su s 0 0 1) h) := by
  simp only [e_X10_back_0, e_X10_back_1, e_X10_back_2, e_X10_back_6, e_X10_back_9, e_X10_back_10, e_X10_back_13, e_X10_back_14, e_X10_back_17, e_X10_back_18, e_X10_back_21, e_X10_back_24, e_X10_back_25, e_X10_back_28, e_X10_back_29, e_X10_back_30, e_X10_back_31, e_X10_back_34, e_X10_back_35, e_X10_back_38, e_X10_back_39, e_X10_back_40, e_X10_back_41, e_X10_back_44, e_X10_back_47, e_X10_back_48, c_X10_back_3 _ _ md_isShip, mO, mp_0, mg_0, nem, su_get, z1e0, z2e0, z3e0, z4e0, z5e0, z0e1, zme0, Nat.reduceEqDiff, not_true_eq_false, and_self, false_or, or_false, or_self,  bI_eq0, bI_eq1, i10, i20, i30, i00, ne_eq, Decidable.not_not, true_and, and_true, false_and, and_false, xrd_ref, xrd_null, xrd_rf, xid_int, xcat_int, xcat_ref, xcat_null, xcat_long, xcat_rf, xfit_int, xfit_0, xfit_1, xfit_ref, xfit_null, xfit_rf, not_false_eq_true, ↓reduceIte, z01_0, z01_1, bI_01, true_or, or_true, hx, hm, z01l]
theorem md_back1 {x S : Nat} (hm : g.1 ≤ m0) (hS : s 19 0 = nI S) (hS4 : S ≤ 400) (hx : x < S) (hg : ¬ g_back s x) : Ev g 149 0 [some (.ref m0), some (.int (nI x)), none, none, none, none] [] (mput m0 s h) (.inl (some (.int 0)), mput m0 (su s 0 0 0) h) := by
  have hn_x : ¬ nI x < 0 := nI_pos (by omega)
  have hc_x : (nI x).toNatClampNeg = x := nI_clamp (by omega)
  have hb_x : ¬ 400 ≤ x := by omega
  have a : 0 ≤ nI x ∧ nI x < nI S := ⟨nI_pos' (by omega), nI_lt hx (by omega)⟩
  by_cases b : s 26 x = 1
  · have d : ¬ s 27 x = s 1 0 := fun q => hg ⟨b, q⟩
    simp only [e_X10_back_0, e_X10_back_1, e_X10_back_2, e_X10_back_6, e_X10_back_9, e_X10_back_10, e_X10_back_13, e_X10_back_14, e_X10_back_17, e_X10_back_18, e_X10_back_21, e_X10_back_24, e_X10_back_25, e_X10_back_28, e_X10_back_29, e_X10_back_30, e_X10_back_31, e_X10_back_34, e_X10_back_35, e_X10_back_38, e_X10_back_39, e_X10_back_40, e_X10_back_41, e_X10_back_44, e_X10_back_47, e_X10_back_48, c_X10_back_3 _ _ md_isShip, mO, mg_0, mp_0, mg_26, mr_26, mA_26, ml_26, me_26, mp_26, mg_27, mr_27, mA_27, ml_27, me_27, mp_27, mg_1, mp_1, mg_28, mr_28, mA_28, ml_28, me_28, mp_28, mg_29, mr_29, mA_29, ml_29, me_29, mp_29, mg_30, mr_30, mA_30, ml_30, me_30, mp_30, mg_16, mr_16, mA_16, ml_16, me_16, mp_16, mg_8, mr_8, mA_8, ml_8, me_8, mp_8, mg_20, mr_20, mA_20, ml_20, me_20, mp_20, mg_9, mr_9, mA_9, ml_9, me_9, mp_9, mg_13, mr_13, mA_13, ml_13, me_13, mp_13, mg_18, mp_18, nem, su_get, z1e0, z2e0, z3e0, z4e0, z5e0, z0e1, zme0, Nat.reduceEqDiff, not_true_eq_false, and_self, false_or, or_false, or_self,  bI_eq0, bI_eq1, i10, i20, i30, i00, ne_eq, Decidable.not_not, true_and, and_true, false_and, and_false, xrd_ref, xrd_null, xrd_rf, xid_int, xcat_int, xcat_ref, xcat_null, xcat_long, xcat_rf, xfit_int, xfit_0, xfit_1, xfit_ref, xfit_null, xfit_rf, not_false_eq_true, ↓reduceIte, z01_0, z01_1, bI_01, true_or, or_true, hS, a, hm, z00l, hn_x, hc_x, hb_x, b, d]
  · simp only [e_X10_back_0, e_X10_back_1, e_X10_back_2, e_X10_back_6, e_X10_back_9, e_X10_back_10, e_X10_back_13, e_X10_back_14, e_X10_back_17, e_X10_back_18, e_X10_back_21, e_X10_back_24, e_X10_back_25, e_X10_back_28, e_X10_back_29, e_X10_back_30, e_X10_back_31, e_X10_back_34, e_X10_back_35, e_X10_back_38, e_X10_back_39, e_X10_back_40, e_X10_back_41, e_X10_back_44, e_X10_back_47, e_X10_back_48, c_X10_back_3 _ _ md_isShip, mO, mg_0, mp_0, mg_26, mr_26, mA_26, ml_26, me_26, mp_26, mg_27, mr_27, mA_27, ml_27, me_27, mp_27, mg_1, mp_1, mg_28, mr_28, mA_28, ml_28, me_28, mp_28, mg_29, mr_29, mA_29, ml_29, me_29, mp_29, mg_30, mr_30, mA_30, ml_30, me_30, mp_30, mg_16, mr_16, mA_16, ml_16, me_16, mp_16, mg_8, mr_8, mA_8, ml_8, me_8, mp_8, mg_20, mr_20, mA_20, ml_20, me_20, mp_20, mg_9, mr_9, mA_9, ml_9, me_9, mp_9, mg_13, mr_13, mA_13, ml_13, me_13, mp_13, mg_18, mp_18, nem, su_get, z1e0, z2e0, z3e0, z4e0, z5e0, z0e1, zme0, Nat.reduceEqDiff, not_true_eq_false, and_self, false_or, or_false, or_self,  bI_eq0, bI_eq1, i10, i20, i30, i00, ne_eq, Decidable.not_not, true_and, and_true, false_and, and_false, xrd_ref, xrd_null, xrd_rf, xid_int, xcat_int, xcat_ref, xcat_null, xcat_long, xcat_rf, xfit_int, xfit_0, xfit_1, xfit_ref, xfit_null, xfit_rf, not_false_eq_true, ↓reduceIte, z01_0, z01_1, bI_01, true_or, or_true, hS, a, hm, z00l, hn_x, hc_x, hb_x, b]
def f_back (s : mS) (x : Nat) : mS × (Nat → Int32) := bkL x 3 (bkC (su s 0 0 0) x) (bkA (su s 0 0 0) x)
theorem md_back {x S P L : Nat} (hm : g.1 ≤ m0) (hP60 : P ≤ 60) (hS : s 19 0 = nI S) (hS4 : S ≤ 400) (hx : x < S) (hg : g_back s x) (hq : m0 + 41 < h.1) (hr : xrm g h 3 = true) (hb : bOK s (bkC s x) P L) : Ev g 149 0 [some (.ref m0), some (.int (nI x)), none, none, none, none] [] (mput m0 s h) (.inl (some (.int 1)), mput m0 (f_back s x).1 (tput h.1 3 (f_back s x).2 (h.1 + 1, h.2.1 + 3, h.2.2))) := by
  have hn_x : ¬ nI x < 0 := nI_pos (by omega)
  have hc_x : (nI x).toNatClampNeg = x := nI_clamp (by omega)
  have hb_x : ¬ 400 ≤ x := by omega
  have a : 0 ≤ nI x ∧ nI x < nI S := ⟨nI_pos' (by omega), nI_lt hx (by omega)⟩
  have e0 : ∀ {out : xR}, Ev g 149 0 [some (.ref m0), some (.int (nI x)), none, none, none, none] [] (mput m0 s h) out = Ev g 149 49 [some (.ref m0), some (.int (nI x)), none, none, none, none] [] (mput m0 (su s 0 0 0) h) out := by
    intro out
    simp only [e_X10_back_0, e_X10_back_1, e_X10_back_2, e_X10_back_6, e_X10_back_9, e_X10_back_10, e_X10_back_13, e_X10_back_14, e_X10_back_17, e_X10_back_18, e_X10_back_21, e_X10_back_24, e_X10_back_25, e_X10_back_28, e_X10_back_29, e_X10_back_30, e_X10_back_31, e_X10_back_34, e_X10_back_35, e_X10_back_38, e_X10_back_39, e_X10_back_40, e_X10_back_41, e_X10_back_44, e_X10_back_47, e_X10_back_48, c_X10_back_3 _ _ md_isShip, mO, mg_0, mp_0, mg_26, mr_26, mA_26, ml_26, me_26, mp_26, mg_27, mr_27, mA_27, ml_27, me_27, mp_27, mg_1, mp_1, mg_28, mr_28, mA_28, ml_28, me_28, mp_28, mg_29, mr_29, mA_29, ml_29, me_29, mp_29, mg_30, mr_30, mA_30, ml_30, me_30, mp_30, mg_16, mr_16, mA_16, ml_16, me_16, mp_16, mg_8, mr_8, mA_8, ml_8, me_8, mp_8, mg_20, mr_20, mA_20, ml_20, me_20, mp_20, mg_9, mr_9, mA_9, ml_9, me_9, mp_9, mg_13, mr_13, mA_13, ml_13, me_13, mp_13, mg_18, mp_18, nem, su_get, z1e0, z2e0, z3e0, z4e0, z5e0, z0e1, zme0, Nat.reduceEqDiff, not_true_eq_false, and_self, false_or, or_false, or_self,  bI_eq0, bI_eq1, i10, i20, i30, i00, ne_eq, Decidable.not_not, true_and, and_true, false_and, and_false, xrd_ref, xrd_null, xrd_rf, xid_int, xcat_int, xcat_ref, xcat_null, xcat_long, xcat_rf, xfit_int, xfit_0, xfit_1, xfit_ref, xfit_null, xfit_rf, not_false_eq_true, ↓reduceIte, z01_0, z01_1, bI_01, true_or, or_true, hS, a, hm, z00l, hn_x, hc_x, hb_x, hg.1, hg.2]
  rw [e0, ev_bkA hm (by omega) hq hr]
  unfold f_back
  have ec : bkC (su s 0 0 0) x = bkC s x := by
    unfold bkC
    rw [su_other _ _ (by decide), su_other _ _ (by decide), su_other _ _ (by decide)]
  have o : ∀ k j, k = 16 ∨ k = 17 ∨ k = 18 → bkA (su s 0 0 0) x k j = s k j := fun k j q => by
    unfold bkA
    rw [su_other _ _ (by omega), su_other _ _ (by omega), su_other _ _ (by omega), su_other _ _ (by omega), su_other _ _ (by omega)]
  have hb2 : bOK (bkA (su s 0 0 0) x) (bkC (su s 0 0 0) x) P L := by
    rw [ec]
    obtain ⟨b1, b2, b3⟩ := hb
    refine ⟨lOK_o b1 (fun j => o 17 j (by omega)) (o 18 0 (by omega)), fun j hj => ?_, b3⟩
    rcases b2 j hj with q | ⟨p, b, q1, q2, q3, q4, q5⟩
    · exact Or.inl q
    · exact Or.inr ⟨p, b, q1, q2, fun r => q3 (inL_o r (fun i => (o 17 i (by omega)).symm)), q4, (o 16 p (by omega)).trans q5⟩
  have := lp_back (g := g) (m0 := m0) (h := (h.1 + 1, h.2.1 + 3, h.2.2)) hm hP60 (show x < 400 by omega) hq 3 0 L (bkC (su s 0 0 0) x) (bkA (su s 0 0 0) x) none none (by omega) hb2
  rw [nI_0] at this
  exact this
end MD
