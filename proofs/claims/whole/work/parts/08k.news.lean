/-! ===== new objects, laid one over the other ===== -/
def ob (K : xH) (a c : Nat) (vs : List Value) : xH := (K.1, K.2.1, fun b => if b = a then some (.inl (c, oF vs)) else K.2.2 b)
def ar (K : xH) (a t n : Nat) (f : Nat → Value) : xH := (K.1, K.2.1, fun b => if b = a then some (.inr (t, n, f)) else K.2.2 b)
def nx (K : xH) (n : Nat) : xH := (K.1 + 1, K.2.1 + n, K.2.2)
def rmA (x y : Nat) : Prop := y + 1 ≤ x + 601024
def rmB (y n : Nat) : Prop := y + n ≤ 7293034
section NW
variable {K : xH} {a b c n t f m : Nat} {vs : List Value} {w : Value} {F : Nat → Value} {c2 : Nat}
theorem ob_1 : (ob K a c vs).1 = K.1 := rfl
theorem ob_2 : (ob K a c vs).2.1 = K.2.1 := rfl
theorem ar_1 : (ar K a t n F).1 = K.1 := rfl
theorem ar_2 : (ar K a t n F).2.1 = K.2.1 := rfl
theorem nx_1 : (nx K n).1 = K.1 + 1 := rfl
theorem nx_2 : (nx K n).2.1 = K.2.1 + n := rfl
theorem ob_O : xO (ob K a c vs) a c = true := by simp [xO, ob]
theorem ob_g : xg (ob K a c vs) a f = vs.getD f (.int 0) := by simp [xg, ob, oF]
theorem ob_pf (h : f < vs.length) : xpf (ob K a c vs) a f w = ob K a c (vs.set f w) := by
  simp only [xpf, ob, if_true, xpc, oF_set h]
  congr 2
  funext x
  by_cases e : x = a
  · simp [e]
  · simp [e]
theorem ob_On (h : b ≠ a) : xO (ob K a c vs) b c2 = xO K b c2 := by simp [xO, ob, h]
theorem ob_gn (h : b ≠ a) : xg (ob K a c vs) b f = xg K b f := by simp [xg, ob, h]
theorem ob_pfn (h : b ≠ a) : xpf (ob K a c vs) b f w = ob (xpf K b f w) a c vs := by
  simp only [xpf, ob, if_neg h]
  cases e : K.2.2 b with
  | none => rfl
  | some q =>
    cases q with
    | inl q =>
      simp only [xpc]
      congr 2
      funext x
      by_cases e1 : x = b
      · have e2 : ¬ x = a := by rw [e1]; exact h
        simp [e1, h]
      · simp [e1]
    | inr q => rfl
theorem ar_On (h : b ≠ a) : xO (ar K a t n F) b c2 = xO K b c2 := by simp [xO, ar, h]
theorem ar_gn (h : b ≠ a) : xg (ar K a t n F) b f = xg K b f := by simp [xg, ar, h]
theorem ar_pfn (h : b ≠ a) : xpf (ar K a t n F) b f w = ar (xpf K b f w) a t n F := by
  simp only [xpf, ar, if_neg h]
  cases e : K.2.2 b with
  | none => rfl
  | some q =>
    cases q with
    | inl q =>
      simp only [xpc]
      congr 2
      funext x
      by_cases e1 : x = b
      · have e2 : ¬ x = a := by rw [e1]; exact h
        simp [e1, h]
      · simp [e1]
    | inr q => rfl
theorem nx_O : xO (nx K n) b c2 = xO K b c2 := rfl
theorem nx_g : xg (nx K n) b f = xg K b f := rfl
theorem ob_at : (ob K a c vs).2.2 a = some (.inl (c, oF vs)) := by simp [ob]
theorem ob_atn (h : b ≠ a) : (ob K a c vs).2.2 b = K.2.2 b := by simp [ob, h]
theorem ar_at : (ar K a t n F).2.2 a = some (.inr (t, n, F)) := by simp [ar]
theorem ar_atn (h : b ≠ a) : (ar K a t n F).2.2 b = K.2.2 b := by simp [ar, h]
theorem nx_at : (nx K n).2.2 b = K.2.2 b := rfl
theorem ob_self (h : K.2.2 a = some (.inl (c, oF vs))) : K = ob K a c vs := by
  obtain ⟨x, y, k⟩ := K
  simp only [ob]
  congr 2
  funext b
  by_cases e : b = a
  · rw [if_pos e, e]; exact h
  · rw [if_neg e]
theorem ob_ob {vs2 : List Value} : ob (ob K a c vs) a c2 vs2 = ob K a c2 vs2 := by
  simp only [ob]
  congr 2
  funext x
  by_cases e : x = a
  · simp [e]
  · simp [e]
theorem xrm_i {g : Nat × Nat × Nat} {h : xH} (h1 : rmA g.1 h.1) (h2 : rmB h.2.1 n) : xrm g h n = true := by
  show decide (h.1 + 1 ≤ g.1 + 601024 ∧ h.2.1 + n ≤ 7293034) = true
  rw [decide_eq_true_eq]
  exact ⟨h1, h2⟩
theorem ob_rm {g : Nat × Nat × Nat} : xrm g (ob K a c vs) n = xrm g K n := rfl
theorem ar_rm {g : Nat × Nat × Nat} : xrm g (ar K a t m F) n = xrm g K n := rfl
theorem nx_ob : nx (ob K a c vs) n = ob (nx K n) a c vs := rfl
theorem nx_ar : nx (ar K a t m F) n = ar (nx K n) a t m F := rfl
theorem nw_ob {e : xE} (h : a ≠ K.1) : xnw (ob K a c vs) n e = ob (xnw K n e) a c vs := by
  simp only [xnw, ob]
  congr 2
  funext x
  by_cases e1 : x = a
  · simp [e1, h]
  · simp [e1]
theorem nw_are {e : xE} (h : a ≠ K.1) : xnw (ar K a t m F) n e = ar (xnw K n e) a t m F := by
  simp only [xnw, ar]
  congr 2
  funext x
  by_cases e1 : x = a
  · simp [e1, h]
  · simp [e1]
theorem nw_ar : xnw K n (.inr (t, m, F)) = ar (nx K n) K.1 t m F := rfl
theorem oF_d {L : List Nat} {k : Nat → Nat} (h : ∀ j, k j = L.getD j 0) : (fun j => xdf (k j)) = oF (L.map xdf) := by
  funext j
  rw [h]
  simp only [oF, List.getD_eq_getElem?_getD, List.getElem?_map]
  cases L[j]? <;> rfl
theorem nw_0 : xnw K n (.inl (0, fun j => xdf (xft 0 j))) = ob (nx K n) K.1 0 [.int 0, .null, .int 0] := by rw [oF_d (k := xft 0) (L := [0, 2, 0]) (fun _ => rfl)]; rfl
theorem nw_1 : xnw K n (.inl (1, fun j => xdf (xft 1 j))) = ob (nx K n) K.1 1 [.null, .null, .null, .int 0] := by rw [oF_d (k := xft 1) (L := [2, 2, 2, 0]) (fun _ => rfl)]; rfl
theorem nw_2 : xnw K n (.inl (2, fun j => xdf (xft 2 j))) = ob (nx K n) K.1 2 [.null, .int 0] := by rw [oF_d (k := xft 2) (L := [2, 0]) (fun _ => rfl)]; rfl
theorem nw_3 : xnw K n (.inl (3, fun j => xdf (xft 3 j))) = ob (nx K n) K.1 3 [.int 0, .int 0, .int 0, .int 0, .int 0, .int 0, .int 0, .int 0, .null] := by rw [oF_d (k := xft 3) (L := [0, 0, 0, 0, 0, 0, 0, 0, 2]) (fun _ => rfl)]; rfl
theorem nw_4 : xnw K n (.inl (4, fun j => xdf (xft 4 j))) = ob (nx K n) K.1 4 [.int 0, .int 0, .int 0, .int 0, .null, .null, .null, .int 0, .int 0] := by rw [oF_d (k := xft 4) (L := [0, 0, 0, 0, 2, 2, 2, 0, 1]) (fun _ => rfl)]; rfl
theorem nw_5 : xnw K n (.inl (5, fun j => xdf (xft 5 j))) = ob (nx K n) K.1 5 [.int 0, .int 0, .int 0] := by rw [oF_d (k := xft 5) (L := [0, 0, 0]) (fun _ => rfl)]; rfl
theorem nw_6 : xnw K n (.inl (6, fun j => xdf (xft 6 j))) = ob (nx K n) K.1 6 [.null] := by rw [oF_d (k := xft 6) (L := [2]) (fun _ => rfl)]; rfl
theorem nw_7 : xnw K n (.inl (7, fun j => xdf (xft 7 j))) = ob (nx K n) K.1 7 [.int 0, .int 0, .int 0, .int 0, .int 0, .int 0, .int 0, .null, .null] := by rw [oF_d (k := xft 7) (L := [0, 1, 0, 0, 0, 0, 1, 2, 2]) (fun _ => rfl)]; rfl
theorem nw_8 : xnw K n (.inl (8, fun j => xdf (xft 8 j))) = ob (nx K n) K.1 8 [.null, .null] := by rw [oF_d (k := xft 8) (L := [2, 2]) (fun _ => rfl)]; rfl
theorem nw_9 : xnw K n (.inl (9, fun j => xdf (xft 9 j))) = ob (nx K n) K.1 9 [.int 0, .int 0, .null, .null, .null, .int 0, .int 0, .int 0] := by rw [oF_d (k := xft 9) (L := [0, 0, 2, 2, 2, 0, 0, 0]) (fun _ => rfl)]; rfl
end NW
section NI
variable {g : Nat × Nat × Nat} {K : xH} {a : Nat}
theorem in_X2 (hb : g.1 ≤ a) (hc : K.2.2 a = some (.inl (3, oF [.int 0, .int 0, .int 0, .int 0, .int 0, .int 0, .int 0, .int 0, .null]))) : Ev g 21 0 [some (.ref a)] [] K (.inl none, ob K a 3 [.int 0, .int 0, .int 0, .int 0, .int (-1), .int 0, .int 0, .int (-1), .null]) := by
  rw [show Ev g 21 0 [some (.ref a)] [] K = Ev g 21 0 [some (.ref a)] [] (ob K a 3 [.int 0, .int 0, .int 0, .int 0, .int 0, .int 0, .int 0, .int 0, .null]) from congrArg _ (ob_self hc)]
  simp only [e_X2_init_0, e_X2_init_1, e_X2_init_4, e_X2_init_5, e_X2_init_6, e_X2_init_9, e_X2_init_10, e_X2_init_11, e_X2_init_14, e_X2_init_15, e_X2_init_16, e_X2_init_19, e_X2_init_20, e_X2_init_21, e_X2_init_24, e_X2_init_25, e_X2_init_26, e_X2_init_29, e_X2_init_30, e_X2_init_31, e_X2_init_34, e_X2_init_35, e_X2_init_36, e_X2_init_39, e_X2_init_40, e_X2_init_41, e_X2_init_44, e_X2_init_45, e_X2_init_46, e_X2_init_49, ob_O, ob_pf, List.length_cons, List.length_nil, Nat.reduceAdd, Nat.reduceLT, List.set, hb, nem, su_get, z1e0, z2e0, z3e0, z4e0, z5e0, z0e1, zme0, Nat.reduceEqDiff, not_true_eq_false, and_self, false_or, or_false, or_self,  bI_eq0, bI_eq1, i10, i20, i30, i00, ne_eq, Decidable.not_not, true_and, and_true, false_and, and_false, xrd_ref, xrd_null, xrd_rf, xid_int, xcat_int, xcat_ref, xcat_null, xcat_long, xcat_rf, xfit_int, xfit_0, xfit_1, xfit_ref, xfit_null, xfit_rf, not_false_eq_true, ↓reduceIte, z01_0, z01_1, bI_01, true_or, or_true, List.map_nil, List.sum_nil, Nat.zero_le]
theorem in_X8 (hb : g.1 ≤ a) (hc : K.2.2 a = some (.inl (9, oF [.int 0, .int 0, .null, .null, .null, .int 0, .int 0, .int 0]))) : Ev g 51 0 [some (.ref a)] [] K (.inl none, ob K a 9 [.int 0, .int (-1), .null, .null, .null, .int 0, .int 0, .int 0]) := by
  rw [show Ev g 51 0 [some (.ref a)] [] K = Ev g 51 0 [some (.ref a)] [] (ob K a 9 [.int 0, .int 0, .null, .null, .null, .int 0, .int 0, .int 0]) from congrArg _ (ob_self hc)]
  simp only [e_X8_init_0, e_X8_init_1, e_X8_init_4, e_X8_init_5, e_X8_init_6, e_X8_init_9, e_X8_init_10, e_X8_init_11, e_X8_init_14, e_X8_init_15, e_X8_init_16, e_X8_init_19, e_X8_init_20, e_X8_init_21, e_X8_init_24, e_X8_init_25, e_X8_init_26, e_X8_init_29, e_X8_init_30, e_X8_init_31, e_X8_init_34, e_X8_init_35, e_X8_init_36, e_X8_init_39, e_X8_init_40, e_X8_init_41, e_X8_init_44, ob_O, ob_pf, List.length_cons, List.length_nil, Nat.reduceAdd, Nat.reduceLT, List.set, hb, nem, su_get, z1e0, z2e0, z3e0, z4e0, z5e0, z0e1, zme0, Nat.reduceEqDiff, not_true_eq_false, and_self, false_or, or_false, or_self,  bI_eq0, bI_eq1, i10, i20, i30, i00, ne_eq, Decidable.not_not, true_and, and_true, false_and, and_false, xrd_ref, xrd_null, xrd_rf, xid_int, xcat_int, xcat_ref, xcat_null, xcat_long, xcat_rf, xfit_int, xfit_0, xfit_1, xfit_ref, xfit_null, xfit_rf, not_false_eq_true, ↓reduceIte, z01_0, z01_1, bI_01, true_or, or_true, List.map_nil, List.sum_nil, Nat.zero_le]
theorem n_X3_init_30 {a0 a1 a2 a3 a4 : Option Value} {w0 w1 : Value} {q : Nat} {out : xR} (hw0 : xrd w0 = true) (hw1 : xrd w1 = true) (h1 : g.1 ≤ q) (h2 : K.2.2 q = some (.inl (3, oF [.int 0, .int 0, .int 0, .int 0, .int 0, .int 0, .int 0, .int 0, .null]))) : Ev g 26 30 [a0, a1, a2, a3, a4] [.ref q, w0, w1] K out = Ev g 26 33 [a0, a1, a2, a3, a4] [w0, w1] (ob K q 3 [.int 0, .int 0, .int 0, .int 0, .int (-1), .int 0, .int 0, .int (-1), .null]) out := c_X3_init_30 hw0 hw1 (in_X2 h1 h2)
theorem n_X3_init_41 {a0 a1 a2 a3 a4 : Option Value} {w0 w1 : Value} {q : Nat} {out : xR} (hw0 : xrd w0 = true) (hw1 : xrd w1 = true) (h1 : g.1 ≤ q) (h2 : K.2.2 q = some (.inl (3, oF [.int 0, .int 0, .int 0, .int 0, .int 0, .int 0, .int 0, .int 0, .null]))) : Ev g 26 41 [a0, a1, a2, a3, a4] [.ref q, w0, w1] K out = Ev g 26 44 [a0, a1, a2, a3, a4] [w0, w1] (ob K q 3 [.int 0, .int 0, .int 0, .int 0, .int (-1), .int 0, .int 0, .int (-1), .null]) out := c_X3_init_41 hw0 hw1 (in_X2 h1 h2)
theorem n_X6_init_48 {a0 a1 a2 a3 a4 a5 a6 a7 : Option Value} {w0 w1 : Value} {q : Nat} {out : xR} (hw0 : xrd w0 = true) (hw1 : xrd w1 = true) (h1 : g.1 ≤ q) (h2 : K.2.2 q = some (.inl (9, oF [.int 0, .int 0, .null, .null, .null, .int 0, .int 0, .int 0]))) : Ev g 44 48 [a0, a1, a2, a3, a4, a5, a6, a7] [.ref q, w0, w1] K out = Ev g 44 51 [a0, a1, a2, a3, a4, a5, a6, a7] [w0, w1] (ob K q 9 [.int 0, .int (-1), .null, .null, .null, .int 0, .int 0, .int 0]) out := c_X6_init_48 hw0 hw1 (in_X8 h1 h2)
theorem n_X6_init_59 {a0 a1 a2 a3 a4 a5 a6 a7 : Option Value} {w0 w1 : Value} {q : Nat} {out : xR} (hw0 : xrd w0 = true) (hw1 : xrd w1 = true) (h1 : g.1 ≤ q) (h2 : K.2.2 q = some (.inl (9, oF [.int 0, .int 0, .null, .null, .null, .int 0, .int 0, .int 0]))) : Ev g 44 59 [a0, a1, a2, a3, a4, a5, a6, a7] [.ref q, w0, w1] K out = Ev g 44 62 [a0, a1, a2, a3, a4, a5, a6, a7] [w0, w1] (ob K q 9 [.int 0, .int (-1), .null, .null, .null, .int 0, .int 0, .int 0]) out := c_X6_init_59 hw0 hw1 (in_X8 h1 h2)
theorem in_X3 {p k l d : Int32} (hb : g.1 ≤ a) (ha : a < K.1) (r1 : K.1 + 3 ≤ g.1 + 601024) (r2 : K.2.1 + 418 ≤ 7293034) : ∃ H, Ev g 26 0 [some (.ref a), some (.int p), some (.int k), some (.int l), some (.int d)] [] (ob K a 4 [.int 0, .int 0, .int 0, .int 0, .null, .null, .null, .int 0, .int 0]) (.inl none, H) ∧ H.1 = K.1 + 3 ∧ H.2.1 = K.2.1 + 418 ∧ H.2.2 a = some (.inl (4, oF [.int p, .int k, .int l, .int d, .ref K.1, .ref (K.1 + 1), .ref (K.1 + 2), .int 0, .int 1])) ∧ H.2.2 K.1 = some (.inl (3, oF [.int 0, .int 0, .int 0, .int 0, .int (-1), .int 0, .int 0, .int (-1), .null])) ∧ H.2.2 (K.1 + 1) = some (.inl (3, oF [.int 0, .int 0, .int 0, .int 0, .int (-1), .int 0, .int 0, .int (-1), .null])) ∧ H.2.2 (K.1 + 2) = some (.inr (1, 400, fun _ => .int 0)) ∧ ∀ b, b ≠ a → b ≠ K.1 → b ≠ K.1 + 1 → b ≠ K.1 + 2 → H.2.2 b = K.2.2 b := by
  have h0 : ¬ a = K.1 := by omega
  have h1 : ¬ a = K.1 + 1 := by omega
  have h2 : ¬ a = K.1 + 2 := by omega
  have g0 : ¬ K.1 = a := by omega
  have g1 : ¬ K.1 + 1 = a := by omega
  have g2 : ¬ K.1 + 2 = a := by omega
  have b0 : g.1 ≤ K.1 := by omega
  have b1 : g.1 ≤ K.1 + 1 := by omega
  have h01 : ¬ K.1 = K.1 + 1 := by omega
  have h10 : ¬ K.1 + 1 = K.1 := by omega
  have h12 : ¬ K.1 + 1 = K.1 + 2 := by omega
  have h21 : ¬ K.1 + 2 = K.1 + 1 := by omega
  have h02 : ¬ K.1 = K.1 + 2 := by omega
  have h20 : ¬ K.1 + 2 = K.1 := by omega
  have n1 : xrm g K 9 = true := xrm_i (by unfold rmA; omega) (by unfold rmB; omega)
  have n2 : xrm g (nx K 9) 9 = true := xrm_i (by unfold rmA; rw [nx_1]; omega) (by unfold rmB; rw [nx_2]; omega)
  have n3 : xrm g (nx (nx K 9) 9) 400 = true := xrm_i (by unfold rmA; rw [nx_1, nx_1]; omega) (by unfold rmB; rw [nx_2, nx_2]; omega)
  have c4 : Int32.toNatClampNeg 400 = 400 := by decide
  have c0 : (0 : Int32) ≤ 400 := by decide
  simp only [e_X3_init_0, e_X3_init_1, e_X3_init_4, e_X3_init_5, e_X3_init_6, e_X3_init_9, e_X3_init_10, e_X3_init_11, e_X3_init_14, e_X3_init_15, e_X3_init_16, e_X3_init_19, e_X3_init_20, e_X3_init_22, e_X3_init_25, e_X3_init_26, e_X3_init_29, e_X3_init_33, e_X3_init_36, e_X3_init_37, e_X3_init_40, e_X3_init_44, e_X3_init_47, e_X3_init_48, e_X3_init_51, e_X3_init_53, e_X3_init_56, e_X3_init_57, e_X3_init_58, e_X3_init_61, e_X3_init_62, e_X3_init_63, e_X3_init_66, n_X3_init_30, n_X3_init_41, ob_O, ob_pf, ob_On, ob_pfn, ob_1, ob_2, ar_1, ar_2, nx_1, nx_2, ar_On, ar_pfn, nw_ob, nw_are, nw_ar, nw_3, nx_ob, nx_ar, ob_rm, ar_rm, ob_at, ob_atn, ar_atn, nx_at, h0, h1, h2, g0, g1, g2, b0, b1, h01, h10, h12, h21, h02, h20, n1, n2, n3, c4, c0, List.length_cons, List.length_nil, Nat.reduceAdd, Nat.reduceLT, List.set, hb, nem, su_get, z1e0, z2e0, z3e0, z4e0, z5e0, z0e1, zme0, Nat.reduceEqDiff, not_true_eq_false, and_self, false_or, or_false, or_self,  bI_eq0, bI_eq1, i10, i20, i30, i00, ne_eq, Decidable.not_not, true_and, and_true, false_and, and_false, xrd_ref, xrd_null, xrd_rf, xid_int, xcat_int, xcat_ref, xcat_null, xcat_long, xcat_rf, xfit_int, xfit_0, xfit_1, xfit_ref, xfit_null, xfit_rf, not_false_eq_true, ↓reduceIte, z01_0, z01_1, bI_01, true_or, or_true, List.map_nil, List.sum_nil, Nat.zero_le]
  refine ⟨_, rfl, rfl, rfl, ?_, ?_, ?_, ?_, ?_⟩
  · simp only [ob_at, ob_atn, ar_at, ar_atn, ne_eq, h0, h1, h2, not_false_eq_true]
  · simp only [ob_at, ob_atn, ar_at, ar_atn, ne_eq, g0, h01, h02, not_false_eq_true]
  · simp only [ob_at, ob_atn, ar_at, ar_atn, ne_eq, g1, h10, h12, not_false_eq_true]
  · simp only [ob_at, ob_atn, ar_at, ar_atn, ne_eq, g2, h20, h21, not_false_eq_true]; rfl
  · intro b e1 e2 e3 e4
    simp only [ob_atn, ar_atn, ne_eq, e1, e2, e3, e4, not_false_eq_true, nx_at]
theorem in_X6 {x l d t w : Int32} {i q : Int32} (hi : i = 0 ∨ i = 1) (hq : q = 0 ∨ q = 1) (hb : g.1 ≤ a) (ha : a < K.1) (r1 : K.1 + 2 ≤ g.1 + 601024) (r2 : K.2.1 + 16 ≤ 7293034) : ∃ H, Ev g 44 0 [some (.ref a), some (.int x), some (.int i), some (.int l), some (.int d), some (.int t), some (.int w), some (.int q)] [] (ob K a 7 [.int 0, .int 0, .int 0, .int 0, .int 0, .int 0, .int 0, .null, .null]) (.inl none, H) ∧ H.1 = K.1 + 2 ∧ H.2.1 = K.2.1 + 16 ∧ H.2.2 a = some (.inl (7, oF [.int x, .int i, .int l, .int d, .int t, .int w, .int q, .ref K.1, .ref (K.1 + 1)])) ∧ H.2.2 K.1 = some (.inl (9, oF [.int 0, .int (-1), .null, .null, .null, .int 0, .int 0, .int 0])) ∧ H.2.2 (K.1 + 1) = some (.inl (9, oF [.int 0, .int (-1), .null, .null, .null, .int 0, .int 0, .int 0])) ∧ ∀ b, b ≠ a → b ≠ K.1 → b ≠ K.1 + 1 → H.2.2 b = K.2.2 b := by
  have h0 : ¬ a = K.1 := by omega
  have h1 : ¬ a = K.1 + 1 := by omega
  have g0 : ¬ K.1 = a := by omega
  have g1 : ¬ K.1 + 1 = a := by omega
  have b0 : g.1 ≤ K.1 := by omega
  have b1 : g.1 ≤ K.1 + 1 := by omega
  have h01 : ¬ K.1 = K.1 + 1 := by omega
  have h10 : ¬ K.1 + 1 = K.1 := by omega
  have n1 : xrm g K 8 = true := xrm_i (by unfold rmA; omega) (by unfold rmB; omega)
  have n2 : xrm g (nx K 8) 8 = true := xrm_i (by unfold rmA; rw [nx_1]; omega) (by unfold rmB; rw [nx_2]; omega)
  have fi : xfit 1 (.int i) = true := by rcases hi with rfl | rfl <;> rfl
  have fq : xfit 1 (.int q) = true := by rcases hq with rfl | rfl <;> rfl
  simp only [e_X6_init_0, e_X6_init_1, e_X6_init_4, e_X6_init_5, e_X6_init_6, e_X6_init_9, e_X6_init_10, e_X6_init_11, e_X6_init_14, e_X6_init_15, e_X6_init_16, e_X6_init_19, e_X6_init_20, e_X6_init_22, e_X6_init_25, e_X6_init_26, e_X6_init_28, e_X6_init_31, e_X6_init_32, e_X6_init_34, e_X6_init_37, e_X6_init_38, e_X6_init_40, e_X6_init_43, e_X6_init_44, e_X6_init_47, e_X6_init_51, e_X6_init_54, e_X6_init_55, e_X6_init_58, e_X6_init_62, e_X6_init_65, n_X6_init_48, n_X6_init_59, fi, fq, ob_O, ob_pf, ob_On, ob_pfn, ob_1, ob_2, nx_1, nx_2, nw_ob, nw_9, nx_ob, nx_ar, ob_rm, ar_rm, ob_at, ob_atn, nx_at, h0, h1, g0, g1, b0, b1, h01, h10, n1, n2, List.length_cons, List.length_nil, Nat.reduceAdd, Nat.reduceLT, List.set, hb, nem, su_get, z1e0, z2e0, z3e0, z4e0, z5e0, z0e1, zme0, Nat.reduceEqDiff, not_true_eq_false, and_self, false_or, or_false, or_self,  bI_eq0, bI_eq1, i10, i20, i30, i00, ne_eq, Decidable.not_not, true_and, and_true, false_and, and_false, xrd_ref, xrd_null, xrd_rf, xid_int, xcat_int, xcat_ref, xcat_null, xcat_long, xcat_rf, xfit_int, xfit_0, xfit_1, xfit_ref, xfit_null, xfit_rf, not_false_eq_true, ↓reduceIte, z01_0, z01_1, bI_01, true_or, or_true, List.map_nil, List.sum_nil, Nat.zero_le]
  refine ⟨_, rfl, rfl, rfl, ?_, ?_, ?_, ?_⟩
  · simp only [ob_at, ob_atn, ne_eq, h0, h1, not_false_eq_true]
  · simp only [ob_at, ob_atn, ne_eq, g0, h01, not_false_eq_true]
  · simp only [ob_at, ob_atn, ne_eq, g1, h10, not_false_eq_true]
  · intro b e1 e2 e3
    simp only [ob_atn, ne_eq, e1, e2, e3, not_false_eq_true, nx_at]
theorem ls_size {q : Nat} {v : Int32} (h1 : xO K q 0 = true) (h2 : xg K q 2 = .int v) : Ev g 3 0 [some (.ref q)] [] K (.inl (some (.int v)), K) := by
  simp only [e_Jx4a65c_size_8abf5_0, e_Jx4a65c_size_8abf5_1, e_Jx4a65c_size_8abf5_4, h1, h2, nem, su_get, z1e0, z2e0, z3e0, z4e0, z5e0, z0e1, zme0, Nat.reduceEqDiff, not_true_eq_false, and_self, false_or, or_false, or_self,  bI_eq0, bI_eq1, i10, i20, i30, i00, ne_eq, Decidable.not_not, true_and, and_true, false_and, and_false, xrd_ref, xrd_null, xrd_rf, xid_int, xcat_int, xcat_ref, xcat_null, xcat_long, xcat_rf, xfit_int, xfit_0, xfit_1, xfit_ref, xfit_null, xfit_rf, not_false_eq_true, ↓reduceIte, z01_0, z01_1, bI_01, true_or, or_true]
end NI
