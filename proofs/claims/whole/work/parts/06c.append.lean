/-! ===== an element behind the last, where there is room in the row ===== -/
theorem xA_cell {h : xH} {e t : Nat} (hA : xA h e t = true) : h.2.2 e = some (.inr (t, xl h e, xe h e)) := by
  unfold xA at hA
  cases y : h.2.2 e with
  | none => simp [y] at hA
  | some r =>
    cases r with
    | inl r => simp [y] at hA
    | inr r =>
      simp only [y, beq_iff_eq] at hA
      subst hA
      have e1 : xl h e = r.2.1 := by simp [xl, y]
      have e2 : xe h e = r.2.2 := by funext j; simp [xe, y]
      rw [e1, e2]
section JE
variable {g : Nat × Nat × Nat} {h : xH}
theorem jd_put {a e n cap : Nat} {v : Value} (h0 : xO h a 0 = true) (hA : xA h e 2 = true) (hl : xl h e = cap) (hn : n < cap) (hc : cap < 2 ^ 31) (hb : g.1 ≤ a) (hb2 : g.1 ≤ e) (hv : xok h v = true) (hr : xrd v = true) : Ev g 6 0 [some (.ref a), some v, some (.ref e), some (.int (nI n))] [] h (.inl none, xpf (xpe h e n v) a 2 (.int (nI (n + 1)))) := by
  have hn_i : ¬ nI n < 0 := nI_pos (by omega)
  have hc_i : (nI n).toNatClampNeg = n := nI_clamp (by omega)
  have hb_i : ¬ cap ≤ n := by omega
  have ne : ¬ nI n = nI cap := fun q => by have := (nI_eq (show n < 2 ^ 31 by omega) hc).mp q; omega
  have cell := xA_cell hA
  rw [hl] at cell
  simp only [e_Jx4a65c_add_72be8_0, e_Jx4a65c_add_72be8_1, e_Jx4a65c_add_72be8_2, e_Jx4a65c_add_72be8_3, e_Jx4a65c_add_72be8_6, e_Jx4a65c_add_72be8_10, e_Jx4a65c_add_72be8_11, e_Jx4a65c_add_72be8_12, e_Jx4a65c_add_72be8_13, e_Jx4a65c_add_72be8_14, e_Jx4a65c_add_72be8_15, e_Jx4a65c_add_72be8_16, e_Jx4a65c_add_72be8_17, e_Jx4a65c_add_72be8_18, e_Jx4a65c_add_72be8_19, e_Jx4a65c_add_72be8_22, nem, su_get, z1e0, z2e0, z3e0, z4e0, z5e0, z0e1, zme0, Nat.reduceEqDiff, not_true_eq_false, and_self, false_or, or_false, or_self,  bI_eq0, bI_eq1, i10, i20, i30, i00, ne_eq, Decidable.not_not, true_and, and_true, false_and, and_false, xrd_ref, xrd_null, xrd_rf, xid_int, xcat_int, xcat_ref, xcat_null, xcat_long, xcat_rf, xfit_int, xfit_0, xfit_1, xfit_ref, xfit_null, xfit_rf, not_false_eq_true, ↓reduceIte, z01_0, z01_1, bI_01, true_or, or_true, e_Jx4a65c_add_72be8_2 cell, ne, hA, hl, hn_i, hc_i, hb_i, hv, hr, hb, hb2, h0, xO_xpe, nI_1]
theorem jd_add {a e n cap : Nat} {m : Int32} {v : Value} (h0 : xO h a 0 = true) (h1 : xg h a 1 = .ref e) (h2 : xg h a 2 = .int (nI n)) (h3 : xg h a 0 = .int m) (hA : xA h e 2 = true) (hl : xl h e = cap) (hn : n < cap) (hc : cap < 2 ^ 31) (hb : g.1 ≤ a) (hb2 : g.1 ≤ e) (hv : xok (xpf h a 0 (.int (m + 1))) v = true) (hr : xrd v = true) : Ev g 7 0 [some (.ref a), some v] [] h (.inl (some (.int 1)), xpf (xpe (xpf h a 0 (.int (m + 1))) e n v) a 2 (.int (nI (n + 1)))) := by
  have k1 := jd_put (g := g) (h := xpf h a 0 (.int (m + 1))) (a := a) (e := e) (n := n) (cap := cap) (v := v) (by rw [xO_xpf]; exact h0) (by rw [xA_xpf]; exact hA) (by rw [xl_xpf]; exact hl) hn hc hb hb2 hv hr
  have g1 : xg (xpf h a 0 (.int (m + 1))) a 1 = .ref e := by rw [xg_xpf h0, if_neg (by decide)]; exact h1
  have g2 : xg (xpf h a 0 (.int (m + 1))) a 2 = .int (nI n) := by rw [xg_xpf h0, if_neg (by decide)]; exact h2
  simp only [e_Jx4a65c_add_9ea2d_0, e_Jx4a65c_add_9ea2d_1, e_Jx4a65c_add_9ea2d_2, e_Jx4a65c_add_9ea2d_5, e_Jx4a65c_add_9ea2d_6, e_Jx4a65c_add_9ea2d_7, e_Jx4a65c_add_9ea2d_10, e_Jx4a65c_add_9ea2d_11, e_Jx4a65c_add_9ea2d_12, e_Jx4a65c_add_9ea2d_13, e_Jx4a65c_add_9ea2d_16, e_Jx4a65c_add_9ea2d_17, e_Jx4a65c_add_9ea2d_23, e_Jx4a65c_add_9ea2d_24, nem, su_get, z1e0, z2e0, z3e0, z4e0, z5e0, z0e1, zme0, Nat.reduceEqDiff, not_true_eq_false, and_self, false_or, or_false, or_self,  bI_eq0, bI_eq1, i10, i20, i30, i00, ne_eq, Decidable.not_not, true_and, and_true, false_and, and_false, xrd_ref, xrd_null, xrd_rf, xid_int, xcat_int, xcat_ref, xcat_null, xcat_long, xcat_rf, xfit_int, xfit_0, xfit_1, xfit_ref, xfit_null, xfit_rf, not_false_eq_true, ↓reduceIte, z01_0, z01_1, bI_01, true_or, or_true, h0, h3, hb, xO_xpf, g1, g2, hr, c_Jx4a65c_add_9ea2d_20 _ _ _ k1]
end JE
