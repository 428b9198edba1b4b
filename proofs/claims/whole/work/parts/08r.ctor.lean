/-! ===== new objects in a row: the class's constructor ===== -/
/-- the cells L from K's next address on, m slots -/
def tb (K : xH) (L : List xE) (m : Nat) : xH := (K.1 + L.length, K.2.1 + m, fun b => (if K.1 ≤ b then L[b - K.1]? else none).or (K.2.2 b))
def rq (g : Nat × Nat × Nat) (K : xH) (n k : Nat) : Prop := K.1 + k ≤ g.1 + 601024 ∧ K.2.1 + n ≤ 7293034
section TB
variable {g : Nat × Nat × Nat} {K : xH} {L : List xE} {m n k j c f a t : Nat} {vs : List Value} {w : Value} {e : xE} {F : Nat → Value}
theorem tb_1 : (tb K L m).1 = K.1 + L.length := rfl
theorem tb_at (h : L[j]? = some e) : (tb K L m).2.2 (K.1 + j) = some e := by
  simp only [tb, Nat.le_add_right, if_true, Nat.add_sub_cancel_left, h, Option.some_or]
theorem tb_at0 (h : L[0]? = some e) : (tb K L m).2.2 K.1 = some e := tb_at (j := 0) h
theorem tb_O (h : L[j]? = some (.inl (c, F))) : xO (tb K L m) (K.1 + j) c = true := by simp [xO, tb_at h]
theorem tb_O0 (h : L[0]? = some (.inl (c, F))) : xO (tb K L m) K.1 c = true := tb_O (j := 0) h
theorem tb_set (h : j < L.length) : xpc (tb K L m) (K.1 + j) e = tb K (L.set j e) m := by
  simp only [xpc, tb, List.length_set]
  congr 2
  funext b
  by_cases e1 : b = K.1 + j
  · subst e1
    rw [if_pos rfl, if_pos (Nat.le_add_right _ _), Nat.add_sub_cancel_left, List.getElem?_set_self h, Option.some_or]
  · rw [if_neg e1]
    by_cases e2 : K.1 ≤ b
    · rw [if_pos e2, if_pos e2, List.getElem?_set_ne (by omega)]
    · rw [if_neg e2, if_neg e2]
theorem tb_ob (h : j < L.length) : ob (tb K L m) (K.1 + j) c vs = tb K (L.set j (.inl (c, oF vs))) m := tb_set h
theorem tb_pf (h : L[j]? = some (.inl (c, oF vs))) (hf : f < vs.length) : xpf (tb K L m) (K.1 + j) f w = tb K (L.set j (.inl (c, oF (vs.set f w)))) m := by
  rw [xpf_eq _ _ (tb_at h), oF_set hf]
  have hj : j < L.length := by
    apply Decidable.byContradiction
    intro e
    rw [List.getElem?_eq_none (by omega)] at h
    exact absurd h (by simp)
  exact tb_set hj
theorem tb_pf0 (h : L[0]? = some (.inl (c, oF vs))) (hf : f < vs.length) : xpf (tb K L m) K.1 f w = tb K (L.set 0 (.inl (c, oF (vs.set f w)))) m := tb_pf (j := 0) h hf
theorem tb_add : xpc (nx (tb K L m) n) (K.1 + L.length) e = tb K (L ++ [e]) (m + n) := by
  simp only [xpc, nx, tb, List.length_append, List.length_cons, List.length_nil, Nat.zero_add, Nat.add_assoc]
  congr 2
  funext b
  by_cases e1 : b = K.1 + L.length
  · subst e1
    rw [if_pos rfl, if_pos (Nat.le_add_right _ _), Nat.add_sub_cancel_left, List.getElem?_append_right (Nat.le_refl _), Nat.sub_self]
    rfl
  · rw [if_neg e1]
    by_cases e2 : K.1 ≤ b
    · rw [if_pos e2, if_pos e2]
      by_cases e3 : b - K.1 < L.length
      · rw [List.getElem?_append_left e3]
      · rw [List.getElem?_eq_none (by omega), List.getElem?_eq_none (by simp only [List.length_append, List.length_cons, List.length_nil]; omega)]
    · rw [if_neg e2, if_neg e2]
theorem tb_nob (h : j = L.length) : ob (nx (tb K L m) n) (K.1 + j) c vs = tb K (L ++ [.inl (c, oF vs)]) (m + n) := by subst h; exact tb_add
theorem tb_nar (h : j = L.length) : ar (nx (tb K L m) n) (K.1 + j) t k F = tb K (L ++ [.inr (t, k, F)]) (m + n) := by subst h; exact tb_add
theorem rq_tb (h : rq g K 20000 100) (h1 : L.length + k ≤ 100) (h2 : m + n ≤ 20000) : rq g (tb K L m) n k := by
  unfold rq at h ⊢
  exact ⟨show K.1 + L.length + k ≤ _ by omega, show K.2.1 + m + n ≤ _ by omega⟩
theorem rq_rm (h : rq g K n 1) : xrm g K n = true := xrm_i h.1 h.2
theorem nx_pf : xpf (nx K n) a f w = nx (xpf K a f w) n := by
  simp only [xpf, nx]
  cases K.2.2 a with
  | none => rfl
  | some q => cases q <;> rfl
theorem in_L (hb : g.1 ≤ a) (hc : K.2.2 a = some (.inl (0, oF [.int 0, .null, .int 0]))) : Ev g 0 0 [some (.ref a)] [] K (.inl none, ob K a 0 [.int 0, .ref g.2.1, .int 0]) := by
  have k1 : ∀ {H : xH}, Ev g 181 0 [some (.ref a)] [] H (.inl none, H) := by
    intro H
    simp only [e_Jxa1e45_init_da8c8_0, e_Jxa1e45_init_da8c8_1, e_Jxa1e45_init_da8c8_4, nem, su_get, z1e0, z2e0, z3e0, z4e0, z5e0, z0e1, zme0, Nat.reduceEqDiff, not_true_eq_false, and_self, false_or, or_false, or_self,  bI_eq0, bI_eq1, i10, i20, i30, i00, ne_eq, Decidable.not_not, true_and, and_true, false_and, and_false, xrd_ref, xrd_null, xrd_rf, xid_int, xcat_int, xcat_ref, xcat_null, xcat_long, xcat_rf, xfit_int, xfit_0, xfit_1, xfit_ref, xfit_null, xfit_rf, not_false_eq_true, ↓reduceIte, z01_0, z01_1, bI_01, true_or, or_true, List.map_nil, List.sum_nil, Nat.zero_le]
  have k2 : ∀ {H : xH} {u v : Value}, Ev g 180 0 [some (.ref a)] [] (ob H a 0 [.int 0, u, v]) (.inl none, ob H a 0 [.int 0, u, v]) := by
    intro H u v
    simp only [e_Jxc12de_init_da8c8_0, c_Jxc12de_init_da8c8_1 k1, e_Jxc12de_init_da8c8_4, e_Jxc12de_init_da8c8_5, e_Jxc12de_init_da8c8_6, e_Jxc12de_init_da8c8_9, ob_O, ob_pf, List.length_cons, List.length_nil, Nat.reduceAdd, Nat.reduceLT, List.set, hb, nem, su_get, z1e0, z2e0, z3e0, z4e0, z5e0, z0e1, zme0, Nat.reduceEqDiff, not_true_eq_false, and_self, false_or, or_false, or_self,  bI_eq0, bI_eq1, i10, i20, i30, i00, ne_eq, Decidable.not_not, true_and, and_true, false_and, and_false, xrd_ref, xrd_null, xrd_rf, xid_int, xcat_int, xcat_ref, xcat_null, xcat_long, xcat_rf, xfit_int, xfit_0, xfit_1, xfit_ref, xfit_null, xfit_rf, not_false_eq_true, ↓reduceIte, z01_0, z01_1, bI_01, true_or, or_true]
  rw [show Ev g 0 0 [some (.ref a)] [] K = Ev g 0 0 [some (.ref a)] [] (ob K a 0 [.int 0, .null, .int 0]) from congrArg _ (ob_self hc)]
  simp only [e_Jx4a65c_init_da8c8_0, c_Jx4a65c_init_da8c8_1 k2, e_Jx4a65c_init_da8c8_4, e_Jx4a65c_init_da8c8_5, e_Jx4a65c_init_da8c8_8, e_Jx4a65c_init_da8c8_11, ob_O, ob_pf, List.length_cons, List.length_nil, Nat.reduceAdd, Nat.reduceLT, List.set, hb, nem, su_get, z1e0, z2e0, z3e0, z4e0, z5e0, z0e1, zme0, Nat.reduceEqDiff, not_true_eq_false, and_self, false_or, or_false, or_self,  bI_eq0, bI_eq1, i10, i20, i30, i00, ne_eq, Decidable.not_not, true_and, and_true, false_and, and_false, xrd_ref, xrd_null, xrd_rf, xid_int, xcat_int, xcat_ref, xcat_null, xcat_long, xcat_rf, xfit_int, xfit_0, xfit_1, xfit_ref, xfit_null, xfit_rf, not_false_eq_true, ↓reduceIte, z01_0, z01_1, bI_01, true_or, or_true]
theorem in_X4 (hb : g.1 ≤ a) (hc : K.2.2 a = some (.inl (5, oF [.int 0, .int 0, .int 0]))) : Ev g 31 0 [some (.ref a)] [] K (.inl none, ob K a 5 [.int 8, .int 4, .int 4]) := by
  rw [show Ev g 31 0 [some (.ref a)] [] K = Ev g 31 0 [some (.ref a)] [] (ob K a 5 [.int 0, .int 0, .int 0]) from congrArg _ (ob_self hc)]
  simp only [e_X4_init_0, e_X4_init_1, e_X4_init_4, e_X4_init_5, e_X4_init_7, e_X4_init_10, e_X4_init_11, e_X4_init_12, e_X4_init_15, e_X4_init_16, e_X4_init_17, e_X4_init_20, ob_O, ob_pf, List.length_cons, List.length_nil, Nat.reduceAdd, Nat.reduceLT, List.set, hb, nem, su_get, z1e0, z2e0, z3e0, z4e0, z5e0, z0e1, zme0, Nat.reduceEqDiff, not_true_eq_false, and_self, false_or, or_false, or_self,  bI_eq0, bI_eq1, i10, i20, i30, i00, ne_eq, Decidable.not_not, true_and, and_true, false_and, and_false, xrd_ref, xrd_null, xrd_rf, xid_int, xcat_int, xcat_ref, xcat_null, xcat_long, xcat_rf, xfit_int, xfit_0, xfit_1, xfit_ref, xfit_null, xfit_rf, not_false_eq_true, ↓reduceIte, z01_0, z01_1, bI_01, true_or, or_true, List.map_nil, List.sum_nil, Nat.zero_le]
theorem n_X5_init_9 {a0 : Option Value} {w0 w1 : Value} {q : Nat} {out : xR} (hw0 : xrd w0 = true) (hw1 : xrd w1 = true) (h1 : g.1 ≤ q) (h2 : K.2.2 q = some (.inl (0, oF [.int 0, .null, .int 0]))) : Ev g 34 9 [a0] [.ref q, w0, w1] K out = Ev g 34 12 [a0] [w0, w1] (ob K q 0 [.int 0, .ref g.2.1, .int 0]) out := c_X5_init_9 hw0 hw1 (in_L h1 h2)
theorem in_X5 (hb : g.1 ≤ a) (ha : a < K.1) (hr : rq g K 3 1) (hc : K.2.2 a = some (.inl (6, oF [.null]))) : Ev g 34 0 [some (.ref a)] [] K (.inl none, ob (nx (ob K a 6 [.ref K.1]) 3) K.1 0 [.int 0, .ref g.2.1, .int 0]) := by
  have h0 : ¬ a = K.1 := by omega
  have h1 : ¬ K.1 = a := by omega
  have hb1 : g.1 ≤ K.1 := by omega
  have rm : xrm g K 3 = true := rq_rm hr
  rw [show Ev g 34 0 [some (.ref a)] [] K = Ev g 34 0 [some (.ref a)] [] (ob K a 6 [.null]) from congrArg _ (ob_self hc)]
  simp only [e_X5_init_0, e_X5_init_1, e_X5_init_4, e_X5_init_5, e_X5_init_8, e_X5_init_12, e_X5_init_15, n_X5_init_9, nw_0, ob_1, nx_1, ob_rm, rm, ob_O, ob_On, nx_O, nx_pf, ob_pf, ob_pfn, ob_at, ob_ob, h0, h1, hb1, List.length_cons, List.length_nil, Nat.reduceAdd, Nat.reduceLT, List.set, hb, nem, su_get, z1e0, z2e0, z3e0, z4e0, z5e0, z0e1, zme0, Nat.reduceEqDiff, not_true_eq_false, and_self, false_or, or_false, or_self,  bI_eq0, bI_eq1, i10, i20, i30, i00, ne_eq, Decidable.not_not, true_and, and_true, false_and, and_false, xrd_ref, xrd_null, xrd_rf, xid_int, xcat_int, xcat_ref, xcat_null, xcat_long, xcat_rf, xfit_int, xfit_0, xfit_1, xfit_ref, xfit_null, xfit_rf, not_false_eq_true, ↓reduceIte, z01_0, z01_1, bI_01, true_or, or_true, List.map_nil, List.sum_nil, Nat.zero_le]
theorem in_X1 (hb : g.1 ≤ a) (ha : a < K.1) (hr : rq g K 24 1) (hc : K.2.2 a = some (.inl (2, oF [.null, .int 0]))) : Ev g 17 0 [some (.ref a)] [] K (.inl none, ar (nx (ob K a 2 [.ref K.1, .int 0]) 24) K.1 0 24 (fun _ => .int 0)) := by
  have h0 : ¬ a = K.1 := by omega
  have rm : xrm g K 24 = true := rq_rm hr
  have c1 : Int32.toNatClampNeg 24 = 24 := by decide
  have c0 : (0 : Int32) ≤ 24 := by decide
  rw [show Ev g 17 0 [some (.ref a)] [] K = Ev g 17 0 [some (.ref a)] [] (ob K a 2 [.null, .int 0]) from congrArg _ (ob_self hc)]
  simp only [e_X1_init_0, e_X1_init_1, e_X1_init_4, e_X1_init_5, e_X1_init_7, e_X1_init_9, e_X1_init_12, e_X1_init_13, e_X1_init_14, e_X1_init_17, c0, c1, nw_ar, ob_1, nx_1, ob_rm, rm, ob_O, ar_On, ar_pfn, nx_O, nx_pf, ob_pf, h0, List.length_cons, List.length_nil, Nat.reduceAdd, Nat.reduceLT, List.set, hb, nem, su_get, z1e0, z2e0, z3e0, z4e0, z5e0, z0e1, zme0, Nat.reduceEqDiff, not_true_eq_false, and_self, false_or, or_false, or_self,  bI_eq0, bI_eq1, i10, i20, i30, i00, ne_eq, Decidable.not_not, true_and, and_true, false_and, and_false, xrd_ref, xrd_null, xrd_rf, xid_int, xcat_int, xcat_ref, xcat_null, xcat_long, xcat_rf, xfit_int, xfit_0, xfit_1, xfit_ref, xfit_null, xfit_rf, not_false_eq_true, ↓reduceIte, z01_0, z01_1, bI_01, true_or, or_true, List.map_nil, List.sum_nil, Nat.zero_le]
  rfl
theorem in_X7 (hb : g.1 ≤ a) (ha : a < K.1) (hr : rq g K 10000 2) (hc : K.2.2 a = some (.inl (8, oF [.null, .null]))) : Ev g 46 0 [some (.ref a)] [] K (.inl none, ar (nx (ar (nx (ob K a 8 [.ref K.1, .ref (K.1 + 1)]) 9600) K.1 0 9600 (fun _ => .int 0)) 400) (K.1 + 1) 0 400 (fun _ => .int 0)) := by
  have h0 : ¬ a = K.1 := by omega
  have h1 : ¬ a = K.1 + 1 := by omega
  have rm1 : xrm g K 9600 = true := rq_rm (by unfold rq at hr ⊢; omega)
  have rm2 : xrm g (nx K 9600) 400 = true := rq_rm (by unfold rq at hr ⊢; rw [nx_1, nx_2]; omega)
  have c1 : Int32.toNatClampNeg 9600 = 9600 := by decide
  have c0 : (0 : Int32) ≤ 9600 := by decide
  have c3 : Int32.toNatClampNeg 400 = 400 := by decide
  have c2 : (0 : Int32) ≤ 400 := by decide
  have rm3 : ∀ {vs : List Value} {F : Nat → Value}, xrm g (ar (nx (ob K a 8 vs) 9600) K.1 0 9600 F) 400 = true := rm2
  rw [show Ev g 46 0 [some (.ref a)] [] K = Ev g 46 0 [some (.ref a)] [] (ob K a 8 [.null, .null]) from congrArg _ (ob_self hc)]
  simp only [e_X7_init_0, e_X7_init_1, e_X7_init_4, e_X7_init_5, e_X7_init_8, e_X7_init_10, e_X7_init_13, e_X7_init_14, e_X7_init_17, e_X7_init_19, e_X7_init_22, c0, c1, c2, c3, nw_ar, ob_1, nx_1, ar_1, ob_rm, rm1, rm3, ob_O, ar_On, ar_pfn, nx_O, nx_pf, ob_pf, h0, h1, List.length_cons, List.length_nil, Nat.reduceAdd, Nat.reduceLT, List.set, hb, nem, su_get, z1e0, z2e0, z3e0, z4e0, z5e0, z0e1, zme0, Nat.reduceEqDiff, not_true_eq_false, and_self, false_or, or_false, or_self,  bI_eq0, bI_eq1, i10, i20, i30, i00, ne_eq, Decidable.not_not, true_and, and_true, false_and, and_false, xrd_ref, xrd_null, xrd_rf, xid_int, xcat_int, xcat_ref, xcat_null, xcat_long, xcat_rf, xfit_int, xfit_0, xfit_1, xfit_ref, xfit_null, xfit_rf, not_false_eq_true, ↓reduceIte, z01_0, z01_1, bI_01, true_or, or_true, List.map_nil, List.sum_nil, Nat.zero_le]
  rfl
theorem in_X0 (hb : g.1 ≤ a) (ha : a < K.1) (hr : rq g K 900 3) (hc : K.2.2 a = some (.inl (1, oF [.null, .null, .null, .int 0]))) : Ev g 13 0 [some (.ref a)] [] K (.inl none, ar (nx (ar (nx (ar (nx (ob K a 1 [.ref K.1, .ref (K.1 + 1), .ref (K.1 + 2), .int 0]) 300) K.1 0 300 (fun _ => .int 0)) 300) (K.1 + 1) 0 300 (fun _ => .int 0)) 300) (K.1 + 2) 0 300 (fun _ => .int 0)) := by
  have h0 : ¬ a = K.1 := by omega
  have h1 : ¬ a = K.1 + 1 := by omega
  have h2 : ¬ a = K.1 + 2 := by omega
  have rm1 : xrm g K 300 = true := rq_rm (by unfold rq at hr ⊢; omega)
  have rm2 : xrm g (nx K 300) 300 = true := rq_rm (by unfold rq at hr ⊢; rw [nx_1, nx_2]; omega)
  have rm4 : xrm g (nx (nx K 300) 300) 300 = true := rq_rm (by unfold rq at hr ⊢; rw [nx_1, nx_2, nx_1, nx_2]; omega)
  have c1 : Int32.toNatClampNeg 300 = 300 := by decide
  have c0 : (0 : Int32) ≤ 300 := by decide
  have rm3 : ∀ {vs : List Value} {F : Nat → Value}, xrm g (ar (nx (ob K a 1 vs) 300) K.1 0 300 F) 300 = true := rm2
  have rm5 : ∀ {vs : List Value} {F F2 : Nat → Value}, xrm g (ar (nx (ar (nx (ob K a 1 vs) 300) K.1 0 300 F) 300) (K.1 + 1) 0 300 F2) 300 = true := rm4
  rw [show Ev g 13 0 [some (.ref a)] [] K = Ev g 13 0 [some (.ref a)] [] (ob K a 1 [.null, .null, .null, .int 0]) from congrArg _ (ob_self hc)]
  simp only [e_X0_init_0, e_X0_init_1, e_X0_init_4, e_X0_init_5, e_X0_init_8, e_X0_init_10, e_X0_init_13, e_X0_init_14, e_X0_init_17, e_X0_init_19, e_X0_init_22, e_X0_init_23, e_X0_init_26, e_X0_init_28, e_X0_init_31, e_X0_init_32, e_X0_init_33, e_X0_init_36, c0, c1, nw_ar, ob_1, nx_1, ar_1, ob_rm, rm1, rm3, rm5, ob_O, ar_On, ar_pfn, nx_O, nx_pf, ob_pf, h0, h1, h2, List.length_cons, List.length_nil, Nat.reduceAdd, Nat.reduceLT, List.set, hb, nem, su_get, z1e0, z2e0, z3e0, z4e0, z5e0, z0e1, zme0, Nat.reduceEqDiff, not_true_eq_false, and_self, false_or, or_false, or_self,  bI_eq0, bI_eq1, i10, i20, i30, i00, ne_eq, Decidable.not_not, true_and, and_true, false_and, and_false, xrd_ref, xrd_null, xrd_rf, xid_int, xcat_int, xcat_ref, xcat_null, xcat_long, xcat_rf, xfit_int, xfit_0, xfit_1, xfit_ref, xfit_null, xfit_rf, not_false_eq_true, ↓reduceIte, z01_0, z01_1, bI_01, true_or, or_true, List.map_nil, List.sum_nil, Nat.zero_le]
  rfl
end TB
