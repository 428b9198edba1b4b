/-! ===== a list's object at a and its row at e, laid over a heap ===== -/
def lp (H : xH) (a e : Nat) (m : Int32) (r : Nat) (n : Int32) (c : Nat) (f : Nat → Value) : xH := (H.1, H.2.1, fun b => if b = a then some (.inl (0, oF [.int m, .ref r, .int n])) else if b = e then some (.inr (2, c, f)) else H.2.2 b)
/-- the object alone -/
def lq (H : xH) (a : Nat) (m : Int32) (r : Nat) (n : Int32) : xH := (H.1, H.2.1, fun b => if b = a then some (.inl (0, oF [.int m, .ref r, .int n])) else H.2.2 b)
/-- the heap behind a growth: the old row stays -/
def gH (H : xH) (e n c : Nat) (f : Nat → Value) : xH := (H.1 + 1, H.2.1 + c, fun b => if b = e then some (.inr (2, n, f)) else H.2.2 b)
section LP
variable {H : xH} {a e r c : Nat} {m n : Int32} {f : Nat → Value}
theorem lp_O : xO (lp H a e m r n c f) a 0 = true := by simp [xO, lp]
theorem lp_g0 : xg (lp H a e m r n c f) a 0 = .int m := by simp [xg, lp, oF]
theorem lp_g1 : xg (lp H a e m r n c f) a 1 = .ref r := by simp [xg, lp, oF]
theorem lp_g2 : xg (lp H a e m r n c f) a 2 = .int n := by simp [xg, lp, oF]
theorem lp_p0 (v : Int32) : xpf (lp H a e m r n c f) a 0 (.int v) = lp H a e v r n c f := by
  rw [xpf_eq (c := 0) (f := oF [.int m, .ref r, .int n]) _ _ (by simp [lp]), oF_set (by simp)]
  simp only [xpc, lp]
  congr 2
  funext b
  by_cases x : b = a <;> simp [x]
theorem lp_p1 (v : Nat) : xpf (lp H a e m r n c f) a 1 (.ref v) = lp H a e m v n c f := by
  rw [xpf_eq (c := 0) (f := oF [.int m, .ref r, .int n]) _ _ (by simp [lp]), oF_set (by simp)]
  simp only [xpc, lp]
  congr 2
  funext b
  by_cases x : b = a <;> simp [x]
theorem lp_p2 (v : Int32) : xpf (lp H a e m r n c f) a 2 (.int v) = lp H a e m r v c f := by
  rw [xpf_eq (c := 0) (f := oF [.int m, .ref r, .int n]) _ _ (by simp [lp]), oF_set (by simp)]
  simp only [xpc, lp]
  congr 2
  funext b
  by_cases x : b = a <;> simp [x]
theorem lp_cell (ne : e ≠ a) : (lp H a e m r n c f).2.2 e = some (.inr (2, c, f)) := by simp [lp, ne]
theorem lp_A (ne : e ≠ a) : xA (lp H a e m r n c f) e 2 = true := by simp [xA, lp_cell ne]
theorem lp_l (ne : e ≠ a) : xl (lp H a e m r n c f) e = c := by simp [xl, lp_cell ne]
theorem lp_e (ne : e ≠ a) (j : Nat) : xe (lp H a e m r n c f) e j = f j := by simp [xe, lp_cell ne]
theorem lp_w (ne : e ≠ a) (j : Nat) (v : Value) : xpe (lp H a e m r n c f) e j v = lp H a e m r n c (updV f j v) := by
  rw [xpe_eq _ _ (lp_cell ne)]
  simp only [xpc, lp]
  congr 2
  funext b
  by_cases x : b = a
  · subst x; simp [ne.symm]
  · by_cases y : b = e
    · subst y; simp [x]
    · simp [x, y]
theorem lp_c (ne : e ≠ a) (i j k : Nat) : xcp (lp H a e m r n c f) e e i j k = lp H a e m r n c (va_cpy f f i j k) := by
  have h2 : xe (lp H a e m r n c f) e = f := funext (lp_e ne)
  unfold xcp
  rw [lp_cell ne, h2]
  simp only [xpc, lp]
  congr 2
  funext b
  by_cases x : b = a
  · subst x; simp [ne.symm]
  · by_cases y : b = e
    · subst y; simp [x]
    · simp [x, y]
theorem lp_ok {v : Value} (hA : xok H (.ref e) = false) (h : xok H v = true) : xok (lp H a e m r n c f) v = true := by
  cases v with
  | null => rfl
  | ref y =>
    have ye : y ≠ e := by rintro rfl; rw [hA] at h; cases h
    simp only [xok, lp] at h ⊢
    by_cases x : y = a
    · simp [x]
    · rw [if_neg x, if_neg ye]; exact h
  | _ => simp [xok] at h
theorem lq_O : xO (lq H a m r n) a 0 = true := by simp [xO, lq]
theorem lq_g0 : xg (lq H a m r n) a 0 = .int m := by simp [xg, lq, oF]
theorem lq_g1 : xg (lq H a m r n) a 1 = .ref r := by simp [xg, lq, oF]
theorem lq_g2 : xg (lq H a m r n) a 2 = .int n := by simp [xg, lq, oF]
theorem lq_p0 (v : Int32) : xpf (lq H a m r n) a 0 (.int v) = lq H a v r n := by
  rw [xpf_eq (c := 0) (f := oF [.int m, .ref r, .int n]) _ _ (by simp [lq]), oF_set (by simp)]
  simp only [xpc, lq]
  congr 2
  funext b
  by_cases x : b = a <;> simp [x]
theorem lq_p2 (v : Int32) : xpf (lq H a m r n) a 2 (.int v) = lq H a m r v := by
  rw [xpf_eq (c := 0) (f := oF [.int m, .ref r, .int n]) _ _ (by simp [lq]), oF_set (by simp)]
  simp only [xpc, lq]
  congr 2
  funext b
  by_cases x : b = a <;> simp [x]
end LP
def gcap (n : Nat) : Nat := n + (if n / 2 < 1 then 1 else n / 2)
theorem nI_shr1 {n : Nat} (h : n < 1000) : nI n >>> ((1 : Int32) &&& 31) = nI (n / 2) := by
  have : ∀ n, n < 1000 → nI n >>> ((1 : Int32) &&& 31) = nI (n / 2) := by decide +kernel
  exact this n h
section JG
variable {g : Nat × Nat × Nat} {H : xH}
theorem jd_newLen {n : Nat} (h : n < 1000) : Ev g 184 0 [some (.int (nI n)), some (.int 1), some (.int (nI (n / 2))), none] [] H (.inl (some (.int (nI (gcap n)))), H) := by
  have e1 : nI n + (if (1 : Int32) < nI (n / 2) then nI (n / 2) else 1) = nI (gcap n) := by
    have q := nI_1e
    unfold gcap
    by_cases x : n / 2 < 1
    · have : ¬ (1 : Int32) < nI (n / 2) := by rw [← q]; exact nI_nlt (by omega) (by omega)
      rw [if_pos x, if_neg this, ← q, nI_add]
    · by_cases y : n / 2 = 1
      · rw [y, ← q, if_neg (by decide), nI_add]; rfl
      · have : (1 : Int32) < nI (n / 2) := by rw [← q]; exact nI_lt (by omega) (by omega)
        rw [if_neg x, if_pos this, nI_add]
  have b : gcap n < 2000 := by unfold gcap; split <;> omega
  have b1 : 0 < gcap n := by unfold gcap; split <;> omega
  have e2 : ¬ nI (gcap n) ≤ 0 := by rw [← nI_0]; exact nI_ge (by omega) (by omega)
  have e3 : ¬ (2147483639 : Int32) < nI (gcap n) := by
    intro q
    have := Int32.lt_iff_toInt_lt.mp q
    rw [nI_toInt (by omega)] at this
    have q2 : (2147483639 : Int32).toInt = 2147483639 := by decide
    omega
  simp only [e_J8_newLength_cabcc_0, e_J8_newLength_cabcc_1, e_J8_newLength_cabcc_2, e_J8_newLength_cabcc_6, e_J8_newLength_cabcc_7, e_J8_newLength_cabcc_8, e_J8_newLength_cabcc_9, e_J8_newLength_cabcc_10, e_J8_newLength_cabcc_13, e_J8_newLength_cabcc_14, e_J8_newLength_cabcc_16, e_J8_newLength_cabcc_19, e_J8_newLength_cabcc_20, e_J8_newLength_cabcc_21, e_J8_newLength_cabcc_22, e_J8_newLength_cabcc_26, c_J8_newLength_cabcc_3 jd_max, nem, su_get, z1e0, z2e0, z3e0, z4e0, z5e0, z0e1, zme0, Nat.reduceEqDiff, not_true_eq_false, and_self, false_or, or_false, or_self,  bI_eq0, bI_eq1, i10, i20, i30, i00, ne_eq, Decidable.not_not, true_and, and_true, false_and, and_false, xrd_ref, xrd_null, xrd_rf, xid_int, xcat_int, xcat_ref, xcat_null, xcat_long, xcat_rf, xfit_int, xfit_0, xfit_1, xfit_ref, xfit_null, xfit_rf, not_false_eq_true, ↓reduceIte, z01_0, z01_1, bI_01, true_or, or_true, e1, e2, e3]
theorem va_cpy0 {f : Nat → Value} {n : Nat} : va_cpy f (fun _ => Value.null) 0 0 n = lC n f := by
  funext k
  simp [va_cpy, lC]
theorem jd_copyOf {a e : Nat} {m : Int32} {r : Nat} {k : Int32} {n c : Nat} {f : Nat → Value} (ne : e ≠ a) (ha : a < H.1) (he : e < H.1) (hg : g.1 ≤ H.1) (hn : n ≤ c) (hc : c < 2 ^ 31) (hr : xrm g H c = true) (hA : xok H (.ref e) = false) (hf : ∀ j, j < n → xok H (f j) = true ∧ f j ≠ .ref H.1) : Ev g 182 0 [some (.ref e), some (.int (nI c))] [] (lp H a e m r k n f) (.inl (some (.ref H.1)), lp (gH H e n c f) a H.1 m r k c (lC n f)) := by
  have hn_c : ¬ nI c < 0 := nI_pos hc
  have hc_c : (nI c).toNatClampNeg = c := nI_clamp hc
  have hc_n : (nI n).toNatClampNeg = n := nI_clamp (by omega)
  have h0c : (0 : Int32) ≤ nI c := Int32.not_lt.mp hn_c
  have h0n : (0 : Int32) ≤ nI n := Int32.not_lt.mp (nI_pos (by omega))
  have hr' : xrm g (lp H a e m r k n f) c = true := hr
  have hmin : (if nI c < nI n then nI c else nI n) = nI n := by rw [if_neg (nI_nlt hn hc)]
  have cK : (xnw (lp H a e m r k n f) c (.inr (2, c, fun _ => xdf 2))).2.2 e = some (.inr (2, n, f)) := by
    simp only [xnw, lp]
    rw [if_neg (by omega), if_neg ne, if_pos trivial]
  have cK2 : (xnw (lp H a e m r k n f) c (.inr (2, c, fun _ => xdf 2))).2.2 H.1 = some (.inr (2, c, fun _ => xdf 2)) := by
    simp only [xnw, lp]
    rw [if_pos trivial]
  have oK : ∀ v, xok H v = true → v ≠ .ref H.1 → xok (xnw (lp H a e m r k n f) c (.inr (2, c, fun _ => xdf 2))) v = true := by
    intro v hv q
    have h1 := lp_ok (a := a) (m := m) (r := r) (n := k) (c := n) (f := f) hA hv
    cases v with
    | null => rfl
    | ref y =>
      have : y ≠ H.1 := fun x => q (by rw [x])
      simp only [xok, xnw] at h1 ⊢
      rw [if_neg (show ¬ y = (lp H a e m r k n f).1 from this)]
      exact h1
    | _ => simp [xok] at h1
  have cnd : xA (xnw (lp H a e m r k n f) c (.inr (2, c, fun _ => xdf 2))) e 2 = true ∧ xA (xnw (lp H a e m r k n f) c (.inr (2, c, fun _ => xdf 2))) H.1 2 = true ∧ g.1 ≤ H.1 ∧ (0 : Int32) ≤ 0 ∧ (0 : Int32) ≤ 0 ∧ 0 ≤ nI n ∧ (0 : Int32).toNatClampNeg + (nI n).toNatClampNeg ≤ xl (xnw (lp H a e m r k n f) c (.inr (2, c, fun _ => xdf 2))) e ∧ (0 : Int32).toNatClampNeg + (nI n).toNatClampNeg ≤ xl (xnw (lp H a e m r k n f) c (.inr (2, c, fun _ => xdf 2))) H.1 ∧ (∀ j, j < (nI n).toNatClampNeg → xok (xnw (lp H a e m r k n f) c (.inr (2, c, fun _ => xdf 2))) (xe (xnw (lp H a e m r k n f) c (.inr (2, c, fun _ => xdf 2))) e ((0 : Int32).toNatClampNeg + j)) = true) ∧ (([] : List Value).map fun v => v.category).sum ≤ 8 := by
    have z : (0 : Int32).toNatClampNeg = 0 := by decide
    refine ⟨by simp [xA, cK], by simp [xA, cK2], hg, by decide, by decide, h0n, ?_, ?_, ?_, by decide⟩
    · simp only [xl, cK, z, hc_n]; omega
    · simp only [xl, cK2, z, hc_n]; omega
    · intro j hj
      rw [hc_n] at hj
      simp only [xe, cK, z, Nat.zero_add]
      exact oK _ (hf j hj).1 (hf j hj).2
  have fin : xcp (xnw (lp H a e m r k n f) c (.inr (2, c, fun _ => xdf 2))) e H.1 (0 : Int32).toNatClampNeg (0 : Int32).toNatClampNeg (nI n).toNatClampNeg = lp (gH H e n c f) a H.1 m r k c (lC n f) := by
    have z : (0 : Int32).toNatClampNeg = 0 := by decide
    have x1 : xe (xnw (lp H a e m r k n f) c (.inr (2, c, fun _ => xdf 2))) e = f := by funext j; simp [xe, cK]
    rw [z, hc_n]
    unfold xcp
    rw [cK2, x1]
    simp only [xpc, lp, gH, xnw]
    congr 2
    funext b
    by_cases q1 : b = H.1
    · subst q1
      have : ¬ H.1 = a := by omega
      simp only [this, if_true, if_false]
      rw [show (fun _ : Nat => xdf 2) = (fun _ => Value.null) from rfl, va_cpy0]
    · by_cases q2 : b = a
      · subst q2; simp [q1]
      · by_cases q3 : b = e
        · subst q3; simp [q1, q2]
        · simp [q1, q2, q3]
  have k3 : Ev g 183 0 [some (.ref e), some (.int (nI c)), some (.ref g.2.2), none] [] (lp H a e m r k n f) (.inl (some (.ref H.1)), lp (gH H e n c f) a H.1 m r k c (lC n f)) := by
    simp only [e_J7_copyOf_6403c_0, e_J7_copyOf_6403c_1, e_J7_copyOf_6403c_3, e_J7_copyOf_6403c_6, nem, su_get, z1e0, z2e0, z3e0, z4e0, z5e0, z0e1, zme0, Nat.reduceEqDiff, not_true_eq_false, and_self, false_or, or_false, or_self,  bI_eq0, bI_eq1, i10, i20, i30, i00, ne_eq, Decidable.not_not, true_and, and_true, false_and, and_false, xrd_ref, xrd_null, xrd_rf, xid_int, xcat_int, xcat_ref, xcat_null, xcat_long, xcat_rf, xfit_int, xfit_0, xfit_1, xfit_ref, xfit_null, xfit_rf, not_false_eq_true, ↓reduceIte, z01_0, z01_1, bI_01, true_or, or_true]
    rw [e_J7_copyOf_6403c_7 h0c (by rw [hc_c]; exact hr')]
    simp only [e_J7_copyOf_6403c_10, e_J7_copyOf_6403c_13, e_J7_copyOf_6403c_24, e_J7_copyOf_6403c_25, e_J7_copyOf_6403c_26, e_J7_copyOf_6403c_27, e_J7_copyOf_6403c_28, e_J7_copyOf_6403c_29, nem, su_get, z1e0, z2e0, z3e0, z4e0, z5e0, z0e1, zme0, Nat.reduceEqDiff, not_true_eq_false, and_self, false_or, or_false, or_self,  bI_eq0, bI_eq1, i10, i20, i30, i00, ne_eq, Decidable.not_not, true_and, and_true, false_and, and_false, xrd_ref, xrd_null, xrd_rf, xid_int, xcat_int, xcat_ref, xcat_null, xcat_long, xcat_rf, xfit_int, xfit_0, xfit_1, xfit_ref, xfit_null, xfit_rf, not_false_eq_true, ↓reduceIte, z01_0, z01_1, bI_01, true_or, or_true, hc_c]
    rw [show (lp H a e m r k n f).1 = H.1 from rfl]
    rw [e_J7_copyOf_6403c_30 cK]
    simp only [e_J7_copyOf_6403c_31, c_J7_copyOf_6403c_32 _ _ jd_min, nem, su_get, z1e0, z2e0, z3e0, z4e0, z5e0, z0e1, zme0, Nat.reduceEqDiff, not_true_eq_false, and_self, false_or, or_false, or_self,  bI_eq0, bI_eq1, i10, i20, i30, i00, ne_eq, Decidable.not_not, true_and, and_true, false_and, and_false, xrd_ref, xrd_null, xrd_rf, xid_int, xcat_int, xcat_ref, xcat_null, xcat_long, xcat_rf, xfit_int, xfit_0, xfit_1, xfit_ref, xfit_null, xfit_rf, not_false_eq_true, ↓reduceIte, z01_0, z01_1, bI_01, true_or, or_true, hmin]
    rw [e_J7_copyOf_6403c_35 cnd, fin]
    simp only [e_J7_copyOf_6403c_38, e_J7_copyOf_6403c_39, nem, su_get, z1e0, z2e0, z3e0, z4e0, z5e0, z0e1, zme0, Nat.reduceEqDiff, not_true_eq_false, and_self, false_or, or_false, or_self,  bI_eq0, bI_eq1, i10, i20, i30, i00, ne_eq, Decidable.not_not, true_and, and_true, false_and, and_false, xrd_ref, xrd_null, xrd_rf, xid_int, xcat_int, xcat_ref, xcat_null, xcat_long, xcat_rf, xfit_int, xfit_0, xfit_1, xfit_ref, xfit_null, xfit_rf, not_false_eq_true, ↓reduceIte, z01_0, z01_1, bI_01, true_or, or_true]
  have cc : xA (lp H a e m r k n f) e 2 = true ∧ (([.int (nI c), .ref e] : List Value).map fun v => v.category).sum ≤ 8 := ⟨lp_A ne, by simp [Value.category]⟩
  simp only [e_J7_copyOf_1904c_0, e_J7_copyOf_1904c_1, e_J7_copyOf_1904c_2, nem, su_get, z1e0, z2e0, z3e0, z4e0, z5e0, z0e1, zme0, Nat.reduceEqDiff, not_true_eq_false, and_self, false_or, or_false, or_self,  bI_eq0, bI_eq1, i10, i20, i30, i00, ne_eq, Decidable.not_not, true_and, and_true, false_and, and_false, xrd_ref, xrd_null, xrd_rf, xid_int, xcat_int, xcat_ref, xcat_null, xcat_long, xcat_rf, xfit_int, xfit_0, xfit_1, xfit_ref, xfit_null, xfit_rf, not_false_eq_true, ↓reduceIte, z01_0, z01_1, bI_01, true_or, or_true]
  rw [e_J7_copyOf_1904c_3 cc]
  simp only [c_J7_copyOf_1904c_6 _ _ k3, e_J7_copyOf_1904c_9, nem, su_get, z1e0, z2e0, z3e0, z4e0, z5e0, z0e1, zme0, Nat.reduceEqDiff, not_true_eq_false, and_self, false_or, or_false, or_self,  bI_eq0, bI_eq1, i10, i20, i30, i00, ne_eq, Decidable.not_not, true_and, and_true, false_and, and_false, xrd_ref, xrd_null, xrd_rf, xid_int, xcat_int, xcat_ref, xcat_null, xcat_long, xcat_rf, xfit_int, xfit_0, xfit_1, xfit_ref, xfit_null, xfit_rf, not_false_eq_true, ↓reduceIte, z01_0, z01_1, bI_01, true_or, or_true]
/-- growth of a full row -/
theorem jd_grow {a e : Nat} {m : Int32} {n : Nat} {f : Nat → Value} (h1 : 1 ≤ n) (hn : n < 1000) (ne : e ≠ a) (ha : a < H.1) (he : e < H.1) (hg : g.1 ≤ H.1) (hga : g.1 ≤ a) (hr : xrm g H (gcap n) = true) (hA : xok H (.ref e) = false) (hf : ∀ j, j < n → xok H (f j) = true ∧ f j ≠ .ref H.1) : Ev g 2 0 [some (.ref a)] [] (lp H a e m e (nI n) n f) (.inl (some (.ref H.1)), lp (gH H e n (gcap n) f) a H.1 m H.1 (nI n) (gcap n) (lC n f)) := by
  have b : gcap n < 2000 := by unfold gcap; split <;> omega
  have b2 : n ≤ gcap n := by unfold gcap; omega
  have p : (0 : Int32) < nI n := by rw [← nI_0]; exact nI_lt (by omega) (by omega)
  have d : nI (n + 1) - nI n = 1 := by rw [nI_sub (by omega), Nat.add_sub_cancel_left]; exact nI_1e
  have kc := jd_copyOf (g := g) (H := H) (a := a) (e := e) (m := m) (r := e) (k := nI n) (n := n) (c := gcap n) (f := f) ne ha he hg b2 (by omega) hr hA hf
  have k1 : Ev g 1 0 [some (.ref a), some (.int (nI (n + 1))), none, none] [] (lp H a e m e (nI n) n f) (.inl (some (.ref H.1)), lp (gH H e n (gcap n) f) a H.1 m H.1 (nI n) (gcap n) (lC n f)) := by
    simp only [e_Jx4a65c_grow_92f84_0, e_Jx4a65c_grow_92f84_1, nem, su_get, z1e0, z2e0, z3e0, z4e0, z5e0, z0e1, zme0, Nat.reduceEqDiff, not_true_eq_false, and_self, false_or, or_false, or_self,  bI_eq0, bI_eq1, i10, i20, i30, i00, ne_eq, Decidable.not_not, true_and, and_true, false_and, and_false, xrd_ref, xrd_null, xrd_rf, xid_int, xcat_int, xcat_ref, xcat_null, xcat_long, xcat_rf, xfit_int, xfit_0, xfit_1, xfit_ref, xfit_null, xfit_rf, not_false_eq_true, ↓reduceIte, z01_0, z01_1, bI_01, true_or, or_true, lp_O, lp_g1]
    rw [e_Jx4a65c_grow_92f84_4 (lp_cell ne)]
    simp only [e_Jx4a65c_grow_92f84_5, e_Jx4a65c_grow_92f84_6, e_Jx4a65c_grow_92f84_7, e_Jx4a65c_grow_92f84_10, e_Jx4a65c_grow_92f84_11, e_Jx4a65c_grow_92f84_14, e_Jx4a65c_grow_92f84_17, e_Jx4a65c_grow_92f84_20, e_Jx4a65c_grow_92f84_21, e_Jx4a65c_grow_92f84_22, e_Jx4a65c_grow_92f84_23, e_Jx4a65c_grow_92f84_24, e_Jx4a65c_grow_92f84_25, e_Jx4a65c_grow_92f84_26, e_Jx4a65c_grow_92f84_30, e_Jx4a65c_grow_92f84_31, e_Jx4a65c_grow_92f84_32, e_Jx4a65c_grow_92f84_33, e_Jx4a65c_grow_92f84_36, e_Jx4a65c_grow_92f84_40, e_Jx4a65c_grow_92f84_41, e_Jx4a65c_grow_92f84_44, nem, su_get, z1e0, z2e0, z3e0, z4e0, z5e0, z0e1, zme0, Nat.reduceEqDiff, not_true_eq_false, and_self, false_or, or_false, or_self,  bI_eq0, bI_eq1, i10, i20, i30, i00, ne_eq, Decidable.not_not, true_and, and_true, false_and, and_false, xrd_ref, xrd_null, xrd_rf, xid_int, xcat_int, xcat_ref, xcat_null, xcat_long, xcat_rf, xfit_int, xfit_0, xfit_1, xfit_ref, xfit_null, xfit_rf, not_false_eq_true, ↓reduceIte, z01_0, z01_1, bI_01, true_or, or_true, p, d, nI_shr1 hn, c_Jx4a65c_grow_92f84_27 (jd_newLen hn), lp_O, lp_g1, c_Jx4a65c_grow_92f84_37 _ _ kc, hga, lp_p1]
  simp only [e_Jx4a65c_grow_d5877_0, e_Jx4a65c_grow_d5877_1, e_Jx4a65c_grow_d5877_2, e_Jx4a65c_grow_d5877_5, e_Jx4a65c_grow_d5877_6, e_Jx4a65c_grow_d5877_10, nem, su_get, z1e0, z2e0, z3e0, z4e0, z5e0, z0e1, zme0, Nat.reduceEqDiff, not_true_eq_false, and_self, false_or, or_false, or_self,  bI_eq0, bI_eq1, i10, i20, i30, i00, ne_eq, Decidable.not_not, true_and, and_true, false_and, and_false, xrd_ref, xrd_null, xrd_rf, xid_int, xcat_int, xcat_ref, xcat_null, xcat_long, xcat_rf, xfit_int, xfit_0, xfit_1, xfit_ref, xfit_null, xfit_rf, not_false_eq_true, ↓reduceIte, z01_0, z01_1, bI_01, true_or, or_true, lp_O, lp_g2, nI_1, c_Jx4a65c_grow_d5877_7 _ k1]
/-- growth of a list that has no row yet -/
theorem jd_grow0 {a : Nat} {m : Int32} {f0 : Nat → Value} (ha : a < H.1) (hg : g.1 ≤ H.1) (hga : g.1 ≤ a) (hge : g.2.1 < g.1) (hed : H.2.2 g.2.1 = some (.inr (5, 0, f0))) (hr : xrm g H 10 = true) : Ev g 2 0 [some (.ref a)] [] (lq H a m g.2.1 0) (.inl (some (.ref H.1)), lp (H.1 + 1, H.2.1 + 10, H.2.2) a H.1 m H.1 0 10 (fun _ => .null)) := by
  have hr' : xrm g (lq H a m g.2.1 0) 10 = true := hr
  have ce : (lq H a m g.2.1 0).2.2 g.2.1 = some (.inr (5, 0, f0)) := by
    simp only [lq]
    rw [if_neg (by omega)]
    exact hed
  have t10 : (10 : Int32).toNatClampNeg = 10 := by decide
  have h010 : (0 : Int32) ≤ 10 := by decide
  have p : ¬ (0 : Int32) < 0 := by decide
  have q : ¬ (10 : Int32) < 1 := by decide
  have K : xnw (lq H a m g.2.1 0) 10 (.inr (2, 10, fun _ => xdf 2)) = lp (H.1 + 1, H.2.1 + 10, H.2.2) a H.1 m g.2.1 0 10 (fun _ => .null) := by
    simp only [xnw, lq, lp]
    congr 2
    funext b
    by_cases q1 : b = H.1
    · have : ¬ H.1 = a := by omega
      simp [q1, this, xdf]
    · by_cases q2 : b = a <;> simp [q1, q2]
      intro x; omega
  have k1 : Ev g 1 0 [some (.ref a), some (.int 1), none, none] [] (lq H a m g.2.1 0) (.inl (some (.ref H.1)), lp (H.1 + 1, H.2.1 + 10, H.2.2) a H.1 m H.1 0 10 (fun _ => .null)) := by
    simp only [e_Jx4a65c_grow_92f84_0, e_Jx4a65c_grow_92f84_1, nem, su_get, z1e0, z2e0, z3e0, z4e0, z5e0, z0e1, zme0, Nat.reduceEqDiff, not_true_eq_false, and_self, false_or, or_false, or_self,  bI_eq0, bI_eq1, i10, i20, i30, i00, ne_eq, Decidable.not_not, true_and, and_true, false_and, and_false, xrd_ref, xrd_null, xrd_rf, xid_int, xcat_int, xcat_ref, xcat_null, xcat_long, xcat_rf, xfit_int, xfit_0, xfit_1, xfit_ref, xfit_null, xfit_rf, not_false_eq_true, ↓reduceIte, z01_0, z01_1, bI_01, true_or, or_true, lq_O, lq_g1]
    rw [e_Jx4a65c_grow_92f84_4 ce, nI_0]
    simp only [e_Jx4a65c_grow_92f84_5, e_Jx4a65c_grow_92f84_6, e_Jx4a65c_grow_92f84_7, e_Jx4a65c_grow_92f84_10, e_Jx4a65c_grow_92f84_11, e_Jx4a65c_grow_92f84_14, e_Jx4a65c_grow_92f84_17, e_Jx4a65c_grow_92f84_20, e_Jx4a65c_grow_92f84_21, e_Jx4a65c_grow_92f84_22, e_Jx4a65c_grow_92f84_23, e_Jx4a65c_grow_92f84_24, e_Jx4a65c_grow_92f84_25, e_Jx4a65c_grow_92f84_26, e_Jx4a65c_grow_92f84_30, e_Jx4a65c_grow_92f84_31, e_Jx4a65c_grow_92f84_32, e_Jx4a65c_grow_92f84_33, e_Jx4a65c_grow_92f84_36, e_Jx4a65c_grow_92f84_40, e_Jx4a65c_grow_92f84_41, e_Jx4a65c_grow_92f84_44, e_Jx4a65c_grow_92f84_45, e_Jx4a65c_grow_92f84_46, e_Jx4a65c_grow_92f84_48, nem, su_get, z1e0, z2e0, z3e0, z4e0, z5e0, z0e1, zme0, Nat.reduceEqDiff, not_true_eq_false, and_self, false_or, or_false, or_self,  bI_eq0, bI_eq1, i10, i20, i30, i00, ne_eq, Decidable.not_not, true_and, and_true, false_and, and_false, xrd_ref, xrd_null, xrd_rf, xid_int, xcat_int, xcat_ref, xcat_null, xcat_long, xcat_rf, xfit_int, xfit_0, xfit_1, xfit_ref, xfit_null, xfit_rf, not_false_eq_true, ↓reduceIte, z01_0, z01_1, bI_01, true_or, or_true, p, lq_O, lq_g1, c_Jx4a65c_grow_92f84_49 _ jd_max, q]
    rw [e_Jx4a65c_grow_92f84_52 h010 (by rw [t10]; exact hr')]
    simp only [t10, K]
    rw [show (lq H a m g.2.1 0).1 = H.1 from rfl]
    simp only [e_Jx4a65c_grow_92f84_55, e_Jx4a65c_grow_92f84_56, e_Jx4a65c_grow_92f84_59, nem, su_get, z1e0, z2e0, z3e0, z4e0, z5e0, z0e1, zme0, Nat.reduceEqDiff, not_true_eq_false, and_self, false_or, or_false, or_self,  bI_eq0, bI_eq1, i10, i20, i30, i00, ne_eq, Decidable.not_not, true_and, and_true, false_and, and_false, xrd_ref, xrd_null, xrd_rf, xid_int, xcat_int, xcat_ref, xcat_null, xcat_long, xcat_rf, xfit_int, xfit_0, xfit_1, xfit_ref, xfit_null, xfit_rf, not_false_eq_true, ↓reduceIte, z01_0, z01_1, bI_01, true_or, or_true, lp_O, hga, lp_p1]
  simp only [e_Jx4a65c_grow_d5877_0, e_Jx4a65c_grow_d5877_1, e_Jx4a65c_grow_d5877_2, e_Jx4a65c_grow_d5877_5, e_Jx4a65c_grow_d5877_6, e_Jx4a65c_grow_d5877_10, nem, su_get, z1e0, z2e0, z3e0, z4e0, z5e0, z0e1, zme0, Nat.reduceEqDiff, not_true_eq_false, and_self, false_or, or_false, or_self,  bI_eq0, bI_eq1, i10, i20, i30, i00, ne_eq, Decidable.not_not, true_and, and_true, false_and, and_false, xrd_ref, xrd_null, xrd_rf, xid_int, xcat_int, xcat_ref, xcat_null, xcat_long, xcat_rf, xfit_int, xfit_0, xfit_1, xfit_ref, xfit_null, xfit_rf, not_false_eq_true, ↓reduceIte, z01_0, z01_1, bI_01, true_or, or_true, lq_O, lq_g2, c_Jx4a65c_grow_d5877_7 _ k1, Int32.zero_add]
end JG
section JA
variable {g : Nat × Nat × Nat} {H : xH}
theorem jl_put {a e n c : Nat} {m : Int32} {v : Value} {f : Nat → Value} {a2 : Option Value} (ne : e ≠ a) (hn : n < c) (hc : c < 2 ^ 31) (hb : g.1 ≤ a) (hb2 : g.1 ≤ e) (hv : xok (lp H a e m e (nI n) c f) v = true) (hr : xrd v = true) : Ev g 6 11 [some (.ref a), some v, some (.ref e), some (.int (nI n))] [] (lp H a e m e (nI n) c f) (.inl none, lp H a e m e (nI (n + 1)) c (updV f n v)) := by
  have hn_i : ¬ nI n < 0 := nI_pos (by omega)
  have hc_i : (nI n).toNatClampNeg = n := nI_clamp (by omega)
  have hb_i : ¬ c ≤ n := by omega
  simp only [e_Jx4a65c_add_72be8_11, e_Jx4a65c_add_72be8_12, e_Jx4a65c_add_72be8_13, e_Jx4a65c_add_72be8_14, e_Jx4a65c_add_72be8_15, e_Jx4a65c_add_72be8_16, e_Jx4a65c_add_72be8_17, e_Jx4a65c_add_72be8_18, e_Jx4a65c_add_72be8_19, e_Jx4a65c_add_72be8_22, nem, su_get, z1e0, z2e0, z3e0, z4e0, z5e0, z0e1, zme0, Nat.reduceEqDiff, not_true_eq_false, and_self, false_or, or_false, or_self,  bI_eq0, bI_eq1, i10, i20, i30, i00, ne_eq, Decidable.not_not, true_and, and_true, false_and, and_false, xrd_ref, xrd_null, xrd_rf, xid_int, xcat_int, xcat_ref, xcat_null, xcat_long, xcat_rf, xfit_int, xfit_0, xfit_1, xfit_ref, xfit_null, xfit_rf, not_false_eq_true, ↓reduceIte, z01_0, z01_1, bI_01, true_or, or_true, lp_A ne, lp_l ne, hn_i, hc_i, hb_i, hv, hr, hb, hb2, lp_w ne, lp_O, lp_p2, nI_1]
theorem jl_add {a e n c : Nat} {m : Int32} {v : Value} {f : Nat → Value} (ne : e ≠ a) (hn : n < c) (hc : c < 2 ^ 31) (hb : g.1 ≤ a) (hb2 : g.1 ≤ e) (hA : xok H (.ref e) = false) (hv : xok H v = true) (hr : xrd v = true) : Ev g 7 0 [some (.ref a), some v] [] (lp H a e m e (nI n) c f) (.inl (some (.int 1)), lp H a e (m + 1) e (nI (n + 1)) c (updV f n v)) := by
  have nn : ¬ nI n = nI c := fun q => by have := (nI_eq (show n < 2 ^ 31 by omega) hc).mp q; omega
  have k0 := jl_put (g := g) (H := H) (a := a) (e := e) (n := n) (c := c) (m := m + 1) (v := v) (f := f) (a2 := none) ne hn hc hb hb2 (lp_ok hA hv) hr
  have k1 : Ev g 6 0 [some (.ref a), some v, some (.ref e), some (.int (nI n))] [] (lp H a e (m + 1) e (nI n) c f) (.inl none, lp H a e (m + 1) e (nI (n + 1)) c (updV f n v)) := by
    simp only [e_Jx4a65c_add_72be8_0, e_Jx4a65c_add_72be8_1, nem, su_get, z1e0, z2e0, z3e0, z4e0, z5e0, z0e1, zme0, Nat.reduceEqDiff, not_true_eq_false, and_self, false_or, or_false, or_self,  bI_eq0, bI_eq1, i10, i20, i30, i00, ne_eq, Decidable.not_not, true_and, and_true, false_and, and_false, xrd_ref, xrd_null, xrd_rf, xid_int, xcat_int, xcat_ref, xcat_null, xcat_long, xcat_rf, xfit_int, xfit_0, xfit_1, xfit_ref, xfit_null, xfit_rf, not_false_eq_true, ↓reduceIte, z01_0, z01_1, bI_01, true_or, or_true, e_Jx4a65c_add_72be8_2 (lp_cell ne), e_Jx4a65c_add_72be8_3, e_Jx4a65c_add_72be8_6, e_Jx4a65c_add_72be8_10, nn]
    exact k0
  simp only [e_Jx4a65c_add_9ea2d_0, e_Jx4a65c_add_9ea2d_1, e_Jx4a65c_add_9ea2d_2, e_Jx4a65c_add_9ea2d_5, e_Jx4a65c_add_9ea2d_6, e_Jx4a65c_add_9ea2d_7, e_Jx4a65c_add_9ea2d_10, e_Jx4a65c_add_9ea2d_11, e_Jx4a65c_add_9ea2d_12, e_Jx4a65c_add_9ea2d_13, e_Jx4a65c_add_9ea2d_16, e_Jx4a65c_add_9ea2d_17, e_Jx4a65c_add_9ea2d_23, e_Jx4a65c_add_9ea2d_24, nem, su_get, z1e0, z2e0, z3e0, z4e0, z5e0, z0e1, zme0, Nat.reduceEqDiff, not_true_eq_false, and_self, false_or, or_false, or_self,  bI_eq0, bI_eq1, i10, i20, i30, i00, ne_eq, Decidable.not_not, true_and, and_true, false_and, and_false, xrd_ref, xrd_null, xrd_rf, xid_int, xcat_int, xcat_ref, xcat_null, xcat_long, xcat_rf, xfit_int, xfit_0, xfit_1, xfit_ref, xfit_null, xfit_rf, not_false_eq_true, ↓reduceIte, z01_0, z01_1, bI_01, true_or, or_true, lp_O, lp_g0, hb, lp_p0, lp_g1, lp_g2, hr, c_Jx4a65c_add_9ea2d_20 _ _ _ k1]
theorem jl_addG {a e n : Nat} {m : Int32} {v : Value} {f : Nat → Value} (h1 : 1 ≤ n) (hn : n < 1000) (ne : e ≠ a) (ha : a < H.1) (he : e < H.1) (hb : g.1 ≤ a) (hr : xrm g H (gcap n) = true) (hA : xok H (.ref e) = false) (hf : ∀ j, j < n → xok H (f j) = true ∧ f j ≠ .ref H.1) (hv : xok H v = true) (hv2 : v ≠ .ref H.1) (hrd : xrd v = true) : Ev g 7 0 [some (.ref a), some v] [] (lp H a e m e (nI n) n f) (.inl (some (.int 1)), lp (gH H e n (gcap n) f) a H.1 (m + 1) H.1 (nI (n + 1)) (gcap n) (updV (lC n f) n v)) := by
  have b : gcap n < 2000 := by unfold gcap; split <;> omega
  have b2 : n < gcap n := by unfold gcap; split <;> omega
  have ke := jd_grow (g := g) (H := H) (a := a) (e := e) (m := m + 1) (n := n) (f := f) h1 hn ne ha he (by omega) hb hr hA hf
  have ok2 : xok (lp (gH H e n (gcap n) f) a H.1 (m + 1) H.1 (nI n) (gcap n) (lC n f)) v = true := by
    cases v with
    | null => rfl
    | ref y =>
      have y1 : y ≠ H.1 := fun x => hv2 (by rw [x])
      have y2 : y ≠ e := by rintro rfl; rw [hA] at hv; cases hv
      simp only [xok, lp, gH] at hv ⊢
      by_cases x : y = a
      · simp [x]
      · rw [if_neg x, if_neg y1, if_neg y2]; exact hv
    | _ => simp [xok] at hv
  have k0 := jl_put (g := g) (H := gH H e n (gcap n) f) (a := a) (e := H.1) (n := n) (c := gcap n) (m := m + 1) (v := v) (f := lC n f) (a2 := none) (by omega) b2 (by omega) hb (by omega) ok2 hrd
  have k1 : Ev g 6 0 [some (.ref a), some v, some (.ref e), some (.int (nI n))] [] (lp H a e (m + 1) e (nI n) n f) (.inl none, lp (gH H e n (gcap n) f) a H.1 (m + 1) H.1 (nI (n + 1)) (gcap n) (updV (lC n f) n v)) := by
    simp only [e_Jx4a65c_add_72be8_0, e_Jx4a65c_add_72be8_1, nem, su_get, z1e0, z2e0, z3e0, z4e0, z5e0, z0e1, zme0, Nat.reduceEqDiff, not_true_eq_false, and_self, false_or, or_false, or_self,  bI_eq0, bI_eq1, i10, i20, i30, i00, ne_eq, Decidable.not_not, true_and, and_true, false_and, and_false, xrd_ref, xrd_null, xrd_rf, xid_int, xcat_int, xcat_ref, xcat_null, xcat_long, xcat_rf, xfit_int, xfit_0, xfit_1, xfit_ref, xfit_null, xfit_rf, not_false_eq_true, ↓reduceIte, z01_0, z01_1, bI_01, true_or, or_true, e_Jx4a65c_add_72be8_2 (lp_cell ne), e_Jx4a65c_add_72be8_3, e_Jx4a65c_add_72be8_6, e_Jx4a65c_add_72be8_10, c_Jx4a65c_add_72be8_7 lp_O ke]
    exact k0
  simp only [e_Jx4a65c_add_9ea2d_0, e_Jx4a65c_add_9ea2d_1, e_Jx4a65c_add_9ea2d_2, e_Jx4a65c_add_9ea2d_5, e_Jx4a65c_add_9ea2d_6, e_Jx4a65c_add_9ea2d_7, e_Jx4a65c_add_9ea2d_10, e_Jx4a65c_add_9ea2d_11, e_Jx4a65c_add_9ea2d_12, e_Jx4a65c_add_9ea2d_13, e_Jx4a65c_add_9ea2d_16, e_Jx4a65c_add_9ea2d_17, e_Jx4a65c_add_9ea2d_23, e_Jx4a65c_add_9ea2d_24, nem, su_get, z1e0, z2e0, z3e0, z4e0, z5e0, z0e1, zme0, Nat.reduceEqDiff, not_true_eq_false, and_self, false_or, or_false, or_self,  bI_eq0, bI_eq1, i10, i20, i30, i00, ne_eq, Decidable.not_not, true_and, and_true, false_and, and_false, xrd_ref, xrd_null, xrd_rf, xid_int, xcat_int, xcat_ref, xcat_null, xcat_long, xcat_rf, xfit_int, xfit_0, xfit_1, xfit_ref, xfit_null, xfit_rf, not_false_eq_true, ↓reduceIte, z01_0, z01_1, bI_01, true_or, or_true, lp_O, lp_g0, hb, lp_p0, lp_g1, lp_g2, hrd, c_Jx4a65c_add_9ea2d_20 _ _ _ k1]
theorem jl_add0 {a : Nat} {m : Int32} {v : Value} {f0 : Nat → Value} (ha : a < H.1) (hb : g.1 ≤ a) (hge : g.2.1 < g.1) (hed : H.2.2 g.2.1 = some (.inr (5, 0, f0))) (hr : xrm g H 10 = true) (hv : xok H v = true) (hv2 : v ≠ .ref H.1) (hrd : xrd v = true) : Ev g 7 0 [some (.ref a), some v] [] (lq H a m g.2.1 0) (.inl (some (.int 1)), lp (H.1 + 1, H.2.1 + 10, H.2.2) a H.1 (m + 1) H.1 1 10 (updV (fun _ => .null) 0 v)) := by
  have ke := jd_grow0 (g := g) (H := H) (a := a) (m := m + 1) (f0 := f0) ha (by omega) hb hge hed hr
  have ce : (lq H a (m + 1) g.2.1 0).2.2 g.2.1 = some (.inr (5, 0, f0)) := by
    simp only [lq]
    rw [if_neg (by omega)]
    exact hed
  have ok2 : xok (lp (H.1 + 1, H.2.1 + 10, H.2.2) a H.1 (m + 1) H.1 (nI 0) 10 (fun _ => .null)) v = true := by
    cases v with
    | null => rfl
    | ref y =>
      have y1 : y ≠ H.1 := fun x => hv2 (by rw [x])
      simp only [xok, lp] at hv ⊢
      by_cases x : y = a
      · simp [x]
      · rw [if_neg x, if_neg y1]; exact hv
    | _ => simp [xok] at hv
  have k0 := jl_put (g := g) (H := (H.1 + 1, H.2.1 + 10, H.2.2)) (a := a) (e := H.1) (n := 0) (c := 10) (m := m + 1) (v := v) (f := fun _ => .null) (a2 := none) (by omega) (by decide) (by decide) hb (by omega) ok2 hrd
  rw [nI_0, Nat.zero_add, nI_1e] at k0
  have k1 : Ev g 6 0 [some (.ref a), some v, some (.ref g.2.1), some (.int 0)] [] (lq H a (m + 1) g.2.1 0) (.inl none, lp (H.1 + 1, H.2.1 + 10, H.2.2) a H.1 (m + 1) H.1 1 10 (updV (fun _ => .null) 0 v)) := by
    simp only [e_Jx4a65c_add_72be8_0, e_Jx4a65c_add_72be8_1, nem, su_get, z1e0, z2e0, z3e0, z4e0, z5e0, z0e1, zme0, Nat.reduceEqDiff, not_true_eq_false, and_self, false_or, or_false, or_self,  bI_eq0, bI_eq1, i10, i20, i30, i00, ne_eq, Decidable.not_not, true_and, and_true, false_and, and_false, xrd_ref, xrd_null, xrd_rf, xid_int, xcat_int, xcat_ref, xcat_null, xcat_long, xcat_rf, xfit_int, xfit_0, xfit_1, xfit_ref, xfit_null, xfit_rf, not_false_eq_true, ↓reduceIte, z01_0, z01_1, bI_01, true_or, or_true, e_Jx4a65c_add_72be8_2 ce, nI_0, e_Jx4a65c_add_72be8_3, e_Jx4a65c_add_72be8_6, e_Jx4a65c_add_72be8_10, c_Jx4a65c_add_72be8_7 lq_O ke]
    exact k0
  simp only [e_Jx4a65c_add_9ea2d_0, e_Jx4a65c_add_9ea2d_1, e_Jx4a65c_add_9ea2d_2, e_Jx4a65c_add_9ea2d_5, e_Jx4a65c_add_9ea2d_6, e_Jx4a65c_add_9ea2d_7, e_Jx4a65c_add_9ea2d_10, e_Jx4a65c_add_9ea2d_11, e_Jx4a65c_add_9ea2d_12, e_Jx4a65c_add_9ea2d_13, e_Jx4a65c_add_9ea2d_16, e_Jx4a65c_add_9ea2d_17, e_Jx4a65c_add_9ea2d_23, e_Jx4a65c_add_9ea2d_24, nem, su_get, z1e0, z2e0, z3e0, z4e0, z5e0, z0e1, zme0, Nat.reduceEqDiff, not_true_eq_false, and_self, false_or, or_false, or_self,  bI_eq0, bI_eq1, i10, i20, i30, i00, ne_eq, Decidable.not_not, true_and, and_true, false_and, and_false, xrd_ref, xrd_null, xrd_rf, xid_int, xcat_int, xcat_ref, xcat_null, xcat_long, xcat_rf, xfit_int, xfit_0, xfit_1, xfit_ref, xfit_null, xfit_rf, not_false_eq_true, ↓reduceIte, z01_0, z01_1, bI_01, true_or, or_true, lq_O, lq_g0, hb, lq_p0, lq_g1, lq_g2, hrd, c_Jx4a65c_add_9ea2d_20 _ _ _ k1]
end JA
