/-! ===== the reference's back: a row of three beside it ===== -/
def cu (c : Nat → Int32) (j : Nat) (v : Int32) : Nat → Int32 := fun i => if i = j then v else c i
def tput (q n : Nat) (c : Nat → Int32) (h : xH) : xH := (h.1, h.2.1, fun b => if b = q then some (.inr (0, n, fun j => .int (c j))) else h.2.2 b)
theorem mt_at {m0 q n : Nat} {s : mS} {c : Nat → Int32} {h : xH} (hq : m0 + 41 < q) : (mput m0 s (tput q n c h)).2.2 q = some (.inr (0, n, fun j => .int (c j))) := by
  have : ¬ (m0 ≤ q ∧ q ≤ m0 + 41) := by omega
  simp [mput, tput, this]
theorem mt_A {m0 q n : Nat} {s : mS} {c : Nat → Int32} {h : xH} (hq : m0 + 41 < q) : xA (mput m0 s (tput q n c h)) q 0 = true := by simp [xA, mt_at hq]
theorem mt_l {m0 q n : Nat} {s : mS} {c : Nat → Int32} {h : xH} (hq : m0 + 41 < q) : xl (mput m0 s (tput q n c h)) q = n := by simp [xl, mt_at hq]
theorem mt_e {m0 q n : Nat} {s : mS} {c : Nat → Int32} {h : xH} (hq : m0 + 41 < q) (j : Nat) : xe (mput m0 s (tput q n c h)) q j = .int (c j) := by simp [xe, mt_at hq]
theorem mt_p {m0 q n : Nat} {s : mS} {c : Nat → Int32} {h : xH} (hq : m0 + 41 < q) (j : Nat) (v : Int32) : xpe (mput m0 s (tput q n c h)) q j (.int v) = mput m0 s (tput q n (cu c j v) h) := by
  rw [xpe_eq _ _ (mt_at hq)]
  refine mput_eq rfl rfl (fun a => ?_)
  simp only [xpc]
  by_cases e : a = q
  · subst e
    rw [if_pos rfl, mt_at hq]
    congr 4
    funext i
    by_cases ei : i = j
    · subst ei; simp [updV, cu]
    · simp [updV, cu, ei]
  · rw [if_neg e]
    simp only [mput, tput]
    by_cases b : m0 ≤ a ∧ a ≤ m0 + 41
    · rw [if_pos b, if_pos b]
    · rw [if_neg b, if_neg b, if_neg e, if_neg e]
theorem mt_n {m0 n : Nat} {s : mS} {h : xH} (hq : m0 + 41 < h.1) : xnw (mput m0 s h) n (.inr (0, n, fun _ => xdf 0)) = mput m0 s (tput h.1 n (fun _ => 0) (h.1 + 1, h.2.1 + n, h.2.2)) := by
  refine mput_eq rfl rfl (fun a => ?_)
  by_cases e : a = h.1
  · subst e
    have : ¬ (m0 ≤ h.1 ∧ h.1 ≤ m0 + 41) := by omega
    simp [xnw, mput, tput, this, xdf]
  · by_cases b : m0 ≤ a ∧ a ≤ m0 + 41
    · simp [xnw, mput, tput, e, b]
    · simp [xnw, mput, tput, e, b]
theorem mput_fst (m0 : Nat) (s : mS) (h : xH) : (mput m0 s h).1 = h.1 := rfl
theorem mput_rm (g : Nat × Nat × Nat) (m0 : Nat) (s : mS) (h : xH) (n : Nat) : xrm g (mput m0 s h) n = xrm g h n := rfl
section MD
variable {g : Nat × Nat × Nat} {m0 : Nat} {s : mS} {h : xH}
def bkA (s : mS) (x : Nat) : mS := su (su (su (su s 26 x 3) 28 x (-1)) 29 x (-1)) 30 x (-1)
def bkC (s : mS) (x : Nat) : Nat → Int32 := cu (cu (cu (fun _ => 0) 0 (s 28 x)) 1 (s 29 x)) 2 (s 30 x)
theorem ev_bkA {x : Nat} {out : xR} (hm : g.1 ≤ m0) (hx : x < 400) (hq : m0 + 41 < h.1) (hr : xrm g h 3 = true) : Ev g 149 49 [some (.ref m0), some (.int (nI x)), none, none, none, none] [] (mput m0 s h) out = Ev g 149 110 [some (.ref m0), some (.int (nI x)), some (.ref h.1), some (.int 0), none, none] [] (mput m0 (bkA s x) (tput h.1 3 (bkC s x) (h.1 + 1, h.2.1 + 3, h.2.2))) out := by
  have hn_x : ¬ nI x < 0 := nI_pos (by omega)
  have hc_x : (nI x).toNatClampNeg = x := nI_clamp (by omega)
  have hb_x : ¬ 400 ≤ x := by omega
  have z3 : (0 : Int32) ≤ 3 := by decide
  have c3 : (3 : Int32).toNatClampNeg = 3 := by decide
  have c0 : (0 : Int32).toNatClampNeg = 0 := by decide
  have c1 : (1 : Int32).toNatClampNeg = 1 := by decide
  have c2 : (2 : Int32).toNatClampNeg = 2 := by decide
  have n0 : ¬ (0 : Int32) < 0 := by decide
  have n1 : ¬ (1 : Int32) < 0 := by decide
  have n2 : ¬ (2 : Int32) < 0 := by decide
  have b0 : ¬ 3 ≤ 0 := by decide
  have b1 : ¬ 3 ≤ 1 := by decide
  have b2 : ¬ 3 ≤ 2 := by decide
  have hg : g.1 ≤ h.1 := by omega
  unfold bkA bkC
  simp only [e_X10_back_49, e_X10_back_50, e_X10_back_53, e_X10_back_54, e_X10_back_55, e_X10_back_56, e_X10_back_57, e_X10_back_59, e_X10_back_60, e_X10_back_61, e_X10_back_62, e_X10_back_65, e_X10_back_66, e_X10_back_67, e_X10_back_68, e_X10_back_69, e_X10_back_70, e_X10_back_71, e_X10_back_74, e_X10_back_75, e_X10_back_76, e_X10_back_77, e_X10_back_78, e_X10_back_79, e_X10_back_80, e_X10_back_83, e_X10_back_84, e_X10_back_85, e_X10_back_86, e_X10_back_87, e_X10_back_88, e_X10_back_91, e_X10_back_92, e_X10_back_93, e_X10_back_94, e_X10_back_95, e_X10_back_98, e_X10_back_99, e_X10_back_100, e_X10_back_101, e_X10_back_102, e_X10_back_105, e_X10_back_106, e_X10_back_107, e_X10_back_108, e_X10_back_109, mO, mg_0, mp_0, mg_26, mr_26, mA_26, ml_26, me_26, mp_26, mg_27, mr_27, mA_27, ml_27, me_27, mp_27, mg_1, mp_1, mg_28, mr_28, mA_28, ml_28, me_28, mp_28, mg_29, mr_29, mA_29, ml_29, me_29, mp_29, mg_30, mr_30, mA_30, ml_30, me_30, mp_30, mg_16, mr_16, mA_16, ml_16, me_16, mp_16, mg_8, mr_8, mA_8, ml_8, me_8, mp_8, mg_20, mr_20, mA_20, ml_20, me_20, mp_20, mg_9, mr_9, mA_9, ml_9, me_9, mp_9, mg_13, mr_13, mA_13, ml_13, me_13, mp_13, mg_18, mp_18, nem, su_get, z1e0, z2e0, z3e0, z4e0, z5e0, z0e1, zme0, Nat.reduceEqDiff, not_true_eq_false, and_self, false_or, or_false, or_self,  bI_eq0, bI_eq1, i10, i20, i30, i00, ne_eq, Decidable.not_not, true_and, and_true, false_and, and_false, xrd_ref, xrd_null, xrd_rf, xid_int, xcat_int, xcat_ref, xcat_null, xcat_long, xcat_rf, xfit_int, xfit_0, xfit_1, xfit_ref, xfit_null, xfit_rf, not_false_eq_true, ↓reduceIte, z01_0, z01_1, bI_01, true_or, or_true, hn_x, hc_x, hb_x, hm, hmk hm, hr, hg, z3, c3, c0, c1, c2, n0, n1, n2, b0, b1, b2, mput_fst, mput_rm, mt_n hq, mt_A hq, mt_l hq, mt_e hq, mt_p hq]
/-- which of the three comes first -/
def bkB (s : mS) (c : Nat → Int32) : Nat → Nat → Int32 → Int32
  | 0, _, b => b
  | f + 1, i, b => if ¬ c i = -1 ∧ (b = -1 ∨ s 16 (c i).toNatClampNeg < s 16 (c b.toNatClampNeg).toNatClampNeg) then bkB s c f (i + 1) (nI i) else bkB s c f (i + 1) b
theorem bkB_in (s : mS) (c : Nat → Int32) : ∀ (f i : Nat) (b : Int32), i + f = 3 → (b = -1 ∨ ∃ j, j < 3 ∧ b = nI j ∧ ¬ c j = -1) → (bkB s c f i b = -1 ∨ ∃ j, j < 3 ∧ bkB s c f i b = nI j ∧ ¬ c j = -1) := by
  intro f
  induction f with
  | zero => intro i b _ hb; exact hb
  | succ f ih =>
    intro i b hi hb
    rw [bkB]
    split
    · next q => exact ih _ _ (by omega) (Or.inr ⟨i, by omega, rfl, q.1⟩)
    · exact ih _ _ (by omega) hb
theorem lp_bkB {x k : Int32} {q : Nat} {c : Nat → Int32} {out : xR} (hq : m0 + 41 < q) (hc : ∀ j, j < 3 → pm (c j)) : ∀ (f i : Nat) (b : Int32), i + f = 3 → (b = -1 ∨ ∃ j, j < 3 ∧ b = nI j ∧ ¬ c j = -1) → Ev g 149 121 [some (.ref m0), some (.int x), some (.ref q), some (.int k), some (.int b), some (.int (nI i))] [] (mput m0 s (tput q 3 c h)) out = Ev g 149 172 [some (.ref m0), some (.int x), some (.ref q), some (.int k), some (.int (bkB s c f i b)), some (.int (nI 3))] [] (mput m0 s (tput q 3 c h)) out := by
  intro f
  induction f with
  | zero =>
    intro i b hi hb
    have : i = 3 := by omega
    subst this
    have h2 : (3 : Int32) ≤ nI 3 := by decide +kernel
    rw [e_X10_back_121 rfl]
    simp only [e_X10_back_123, e_X10_back_124, e_X10_back_127, e_X10_back_128, e_X10_back_130, e_X10_back_131, e_X10_back_132, e_X10_back_135, e_X10_back_137, e_X10_back_138, e_X10_back_141, e_X10_back_142, e_X10_back_145, e_X10_back_146, e_X10_back_148, e_X10_back_149, e_X10_back_150, e_X10_back_151, e_X10_back_154, e_X10_back_155, e_X10_back_157, e_X10_back_158, e_X10_back_159, e_X10_back_162, e_X10_back_164, e_X10_back_166, e_X10_back_169, nem, su_get, z1e0, z2e0, z3e0, z4e0, z5e0, z0e1, zme0, Nat.reduceEqDiff, not_true_eq_false, and_self, false_or, or_false, or_self,  bI_eq0, bI_eq1, i10, i20, i30, i00, ne_eq, Decidable.not_not, true_and, and_true, false_and, and_false, xrd_ref, xrd_null, xrd_rf, xid_int, xcat_int, xcat_ref, xcat_null, xcat_long, xcat_rf, xfit_int, xfit_0, xfit_1, xfit_ref, xfit_null, xfit_rf, not_false_eq_true, ↓reduceIte, z01_0, z01_1, bI_01, true_or, or_true, h2, bkB]
  | succ f ih =>
    intro i b hi hb
    have h2 : ¬ (3 : Int32) ≤ nI i := by
      rw [show (3 : Int32) = nI 3 by decide +kernel]
      exact nI_ge (by omega) (by omega)
    have hn_i : ¬ nI i < 0 := nI_pos (by omega)
    have hc_i : (nI i).toNatClampNeg = i := nI_clamp (by omega)
    have hb_i : ¬ 3 ≤ i := by omega
    rw [e_X10_back_121 rfl, bkB]
    have i0 := ih (i + 1) b (by omega) hb
    by_cases a : c i = -1
    · simp only [e_X10_back_123, e_X10_back_124, e_X10_back_127, e_X10_back_128, e_X10_back_130, e_X10_back_131, e_X10_back_132, e_X10_back_135, e_X10_back_137, e_X10_back_138, e_X10_back_141, e_X10_back_142, e_X10_back_145, e_X10_back_146, e_X10_back_148, e_X10_back_149, e_X10_back_150, e_X10_back_151, e_X10_back_154, e_X10_back_155, e_X10_back_157, e_X10_back_158, e_X10_back_159, e_X10_back_162, e_X10_back_164, e_X10_back_166, e_X10_back_169, mO, mg_0, mp_0, mg_26, mr_26, mA_26, ml_26, me_26, mp_26, mg_27, mr_27, mA_27, ml_27, me_27, mp_27, mg_1, mp_1, mg_28, mr_28, mA_28, ml_28, me_28, mp_28, mg_29, mr_29, mA_29, ml_29, me_29, mp_29, mg_30, mr_30, mA_30, ml_30, me_30, mp_30, mg_16, mr_16, mA_16, ml_16, me_16, mp_16, mg_8, mr_8, mA_8, ml_8, me_8, mp_8, mg_20, mr_20, mA_20, ml_20, me_20, mp_20, mg_9, mr_9, mA_9, ml_9, me_9, mp_9, mg_13, mr_13, mA_13, ml_13, me_13, mp_13, mg_18, mp_18, nem, su_get, z1e0, z2e0, z3e0, z4e0, z5e0, z0e1, zme0, Nat.reduceEqDiff, not_true_eq_false, and_self, false_or, or_false, or_self,  bI_eq0, bI_eq1, i10, i20, i30, i00, ne_eq, Decidable.not_not, true_and, and_true, false_and, and_false, xrd_ref, xrd_null, xrd_rf, xid_int, xcat_int, xcat_ref, xcat_null, xcat_long, xcat_rf, xfit_int, xfit_0, xfit_1, xfit_ref, xfit_null, xfit_rf, not_false_eq_true, ↓reduceIte, z01_0, z01_1, bI_01, true_or, or_true, h2, hn_i, hc_i, hb_i, mt_A hq, mt_l hq, mt_e hq, a, nI_1, i0]
    · have i1 := ih (i + 1) (nI i) (by omega) (Or.inr ⟨i, by omega, rfl, a⟩)
      obtain ⟨p, hp, ep⟩ := (hc i (by omega)).resolve_left a
      have hn_p : ¬ nI p < 0 := nI_pos (by omega)
      have hc_p : (nI p).toNatClampNeg = p := nI_clamp (by omega)
      have hb_p : ¬ 60 ≤ p := by omega
      rcases hb with e | ⟨j, hj, e, ej⟩
      · subst e
        simp only [e_X10_back_123, e_X10_back_124, e_X10_back_127, e_X10_back_128, e_X10_back_130, e_X10_back_131, e_X10_back_132, e_X10_back_135, e_X10_back_137, e_X10_back_138, e_X10_back_141, e_X10_back_142, e_X10_back_145, e_X10_back_146, e_X10_back_148, e_X10_back_149, e_X10_back_150, e_X10_back_151, e_X10_back_154, e_X10_back_155, e_X10_back_157, e_X10_back_158, e_X10_back_159, e_X10_back_162, e_X10_back_164, e_X10_back_166, e_X10_back_169, mO, mg_0, mp_0, mg_26, mr_26, mA_26, ml_26, me_26, mp_26, mg_27, mr_27, mA_27, ml_27, me_27, mp_27, mg_1, mp_1, mg_28, mr_28, mA_28, ml_28, me_28, mp_28, mg_29, mr_29, mA_29, ml_29, me_29, mp_29, mg_30, mr_30, mA_30, ml_30, me_30, mp_30, mg_16, mr_16, mA_16, ml_16, me_16, mp_16, mg_8, mr_8, mA_8, ml_8, me_8, mp_8, mg_20, mr_20, mA_20, ml_20, me_20, mp_20, mg_9, mr_9, mA_9, ml_9, me_9, mp_9, mg_13, mr_13, mA_13, ml_13, me_13, mp_13, mg_18, mp_18, nem, su_get, z1e0, z2e0, z3e0, z4e0, z5e0, z0e1, zme0, Nat.reduceEqDiff, not_true_eq_false, and_self, false_or, or_false, or_self,  bI_eq0, bI_eq1, i10, i20, i30, i00, ne_eq, Decidable.not_not, true_and, and_true, false_and, and_false, xrd_ref, xrd_null, xrd_rf, xid_int, xcat_int, xcat_ref, xcat_null, xcat_long, xcat_rf, xfit_int, xfit_0, xfit_1, xfit_ref, xfit_null, xfit_rf, not_false_eq_true, ↓reduceIte, z01_0, z01_1, bI_01, true_or, or_true, h2, hn_i, hc_i, hb_i, mt_A hq, mt_l hq, mt_e hq, a, nI_1, i1]
      · subst e
        have hn_j : ¬ nI j < 0 := nI_pos (by omega)
        have hc_j : (nI j).toNatClampNeg = j := nI_clamp (by omega)
        have hb_j : ¬ 3 ≤ j := by omega
        obtain ⟨r, hr, er⟩ := (hc j hj).resolve_left ej
        have hn_r : ¬ nI r < 0 := nI_pos (by omega)
        have hc_r : (nI r).toNatClampNeg = r := nI_clamp (by omega)
        have hb_r : ¬ 60 ≤ r := by omega
        have nj : ¬ nI j = -1 := nI_nm (by omega)
        have np : ¬ nI p = -1 := nI_nm (by omega)
        by_cases d : s 16 p < s 16 r
        · have d' : ¬ s 16 r ≤ s 16 p := Int32.not_le.mpr d
          simp only [e_X10_back_123, e_X10_back_124, e_X10_back_127, e_X10_back_128, e_X10_back_130, e_X10_back_131, e_X10_back_132, e_X10_back_135, e_X10_back_137, e_X10_back_138, e_X10_back_141, e_X10_back_142, e_X10_back_145, e_X10_back_146, e_X10_back_148, e_X10_back_149, e_X10_back_150, e_X10_back_151, e_X10_back_154, e_X10_back_155, e_X10_back_157, e_X10_back_158, e_X10_back_159, e_X10_back_162, e_X10_back_164, e_X10_back_166, e_X10_back_169, mO, mg_0, mp_0, mg_26, mr_26, mA_26, ml_26, me_26, mp_26, mg_27, mr_27, mA_27, ml_27, me_27, mp_27, mg_1, mp_1, mg_28, mr_28, mA_28, ml_28, me_28, mp_28, mg_29, mr_29, mA_29, ml_29, me_29, mp_29, mg_30, mr_30, mA_30, ml_30, me_30, mp_30, mg_16, mr_16, mA_16, ml_16, me_16, mp_16, mg_8, mr_8, mA_8, ml_8, me_8, mp_8, mg_20, mr_20, mA_20, ml_20, me_20, mp_20, mg_9, mr_9, mA_9, ml_9, me_9, mp_9, mg_13, mr_13, mA_13, ml_13, me_13, mp_13, mg_18, mp_18, nem, su_get, z1e0, z2e0, z3e0, z4e0, z5e0, z0e1, zme0, Nat.reduceEqDiff, not_true_eq_false, and_self, false_or, or_false, or_self,  bI_eq0, bI_eq1, i10, i20, i30, i00, ne_eq, Decidable.not_not, true_and, and_true, false_and, and_false, xrd_ref, xrd_null, xrd_rf, xid_int, xcat_int, xcat_ref, xcat_null, xcat_long, xcat_rf, xfit_int, xfit_0, xfit_1, xfit_ref, xfit_null, xfit_rf, not_false_eq_true, ↓reduceIte, z01_0, z01_1, bI_01, true_or, or_true, h2, hn_i, hc_i, hb_i, hn_j, hc_j, hb_j, hn_p, hc_p, hb_p, hn_r, hc_r, hb_r, mt_A hq, mt_l hq, mt_e hq, ep, er, nj, np, d, d', nI_1, i1]
        · have d' : s 16 r ≤ s 16 p := Int32.not_lt.mp d
          simp only [e_X10_back_123, e_X10_back_124, e_X10_back_127, e_X10_back_128, e_X10_back_130, e_X10_back_131, e_X10_back_132, e_X10_back_135, e_X10_back_137, e_X10_back_138, e_X10_back_141, e_X10_back_142, e_X10_back_145, e_X10_back_146, e_X10_back_148, e_X10_back_149, e_X10_back_150, e_X10_back_151, e_X10_back_154, e_X10_back_155, e_X10_back_157, e_X10_back_158, e_X10_back_159, e_X10_back_162, e_X10_back_164, e_X10_back_166, e_X10_back_169, mO, mg_0, mp_0, mg_26, mr_26, mA_26, ml_26, me_26, mp_26, mg_27, mr_27, mA_27, ml_27, me_27, mp_27, mg_1, mp_1, mg_28, mr_28, mA_28, ml_28, me_28, mp_28, mg_29, mr_29, mA_29, ml_29, me_29, mp_29, mg_30, mr_30, mA_30, ml_30, me_30, mp_30, mg_16, mr_16, mA_16, ml_16, me_16, mp_16, mg_8, mr_8, mA_8, ml_8, me_8, mp_8, mg_20, mr_20, mA_20, ml_20, me_20, mp_20, mg_9, mr_9, mA_9, ml_9, me_9, mp_9, mg_13, mr_13, mA_13, ml_13, me_13, mp_13, mg_18, mp_18, nem, su_get, z1e0, z2e0, z3e0, z4e0, z5e0, z0e1, zme0, Nat.reduceEqDiff, not_true_eq_false, and_self, false_or, or_false, or_self,  bI_eq0, bI_eq1, i10, i20, i30, i00, ne_eq, Decidable.not_not, true_and, and_true, false_and, and_false, xrd_ref, xrd_null, xrd_rf, xid_int, xcat_int, xcat_ref, xcat_null, xcat_long, xcat_rf, xfit_int, xfit_0, xfit_1, xfit_ref, xfit_null, xfit_rf, not_false_eq_true, ↓reduceIte, z01_0, z01_1, bI_01, true_or, or_true, h2, hn_i, hc_i, hb_i, hn_j, hc_j, hb_j, hn_p, hc_p, hb_p, hn_r, hc_r, hb_r, mt_A hq, mt_l hq, mt_e hq, ep, er, nj, np, d, d', nI_1, i0]
end MD
