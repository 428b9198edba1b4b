/-! ===== the reference as it begins ===== -/
section RB
variable {g : Nat × Nat × Nat} {K : xH} {L : List xE} {m n : Nat} {q : Nat × Nat × (Nat → Value)}
theorem tb_nw : xnw (tb K L m) n (.inr q) = tb K (L ++ [.inr q]) (m + n) := tb_add (e := .inr q)
theorem nw_11 : xnw K n (.inl (11, fun j => xdf (xft 11 j))) = ob (nx K n) K.1 11 [.int 0, .int 0, .int 0, .null, .null, .null, .null, .null, .null, .null, .null, .null, .null, .null, .null, .null, .null, .null, .int 0, .int 0, .null, .null, .null, .null, .null, .null, .null, .null, .null, .null, .null, .null, .null, .null, .null, .null, .null, .int 0, .null, .null, .int 0, .int 0, .int 0, .int 0, .null, .null, .null, .int 0, .int 0, .int 0, .null, .null, .int 0, .int 0, .null, .null] := by rw [oF_d (k := xft 11) (L := [0, 0, 0, 2, 2, 2, 2, 2, 2, 2, 2, 2, 2, 2, 2, 2, 2, 2, 0, 0, 2, 2, 2, 2, 2, 2, 2, 2, 2, 2, 2, 2, 2, 2, 2, 2, 2, 0, 2, 2, 0, 0, 0, 0, 2, 2, 2, 0, 1, 0, 2, 2, 1, 0, 2, 2]) (fun _ => rfl)]; rfl
theorem rq_tb6 {k : Nat} (h : rq g K 60000 100) (h1 : L.length + k ≤ 100) (h2 : m + n ≤ 60000) : rq g (tb K L m) n k := by
  unfold rq at h ⊢
  exact ⟨show K.1 + L.length + k ≤ _ by omega, show K.2.1 + m + n ≤ _ by omega⟩
theorem in_X10 (hb : g.1 ≤ K.1) (hr : rq g K 60000 100) : Ev g 110 0 [some (.ref K.1)] [] (tb K [.inl (11, oF [.int 0, .int 0, .int 0, .null, .null, .null, .null, .null, .null, .null, .null, .null, .null, .null, .null, .null, .null, .null, .int 0, .int 0, .null, .null, .null, .null, .null, .null, .null, .null, .null, .null, .null, .null, .null, .null, .null, .null, .null, .int 0, .null, .null, .int 0, .int 0, .int 0, .int 0, .null, .null, .null, .int 0, .int 0, .int 0, .null, .null, .int 0, .int 0, .null, .null])] 56) (.inl none, tb K [.inl (11, oF [.int 0, .int 0, .int 0, .ref (K.1 + 1), .ref (K.1 + 2), .ref (K.1 + 3), .ref (K.1 + 4), .ref (K.1 + 5), .ref (K.1 + 6), .ref (K.1 + 7), .ref (K.1 + 8), .ref (K.1 + 9), .ref (K.1 + 10), .ref (K.1 + 11), .ref (K.1 + 12), .ref (K.1 + 13), .ref (K.1 + 14), .ref (K.1 + 15), .int 0, .int 0, .ref (K.1 + 16), .ref (K.1 + 17), .ref (K.1 + 18), .ref (K.1 + 19), .ref (K.1 + 20), .ref (K.1 + 21), .ref (K.1 + 22), .ref (K.1 + 23), .ref (K.1 + 24), .ref (K.1 + 25), .ref (K.1 + 26), .ref (K.1 + 27), .ref (K.1 + 28), .ref (K.1 + 29), .ref (K.1 + 30), .ref (K.1 + 31), .ref (K.1 + 32), .int 0, .ref (K.1 + 33), .ref (K.1 + 34), .int 1, .int 8, .int 4, .int 4, .ref (K.1 + 35), .ref (K.1 + 36), .ref (K.1 + 37), .int 0, .int 0, .int 0, .ref (K.1 + 38), .ref (K.1 + 39), .int 0, .int 0, .ref (K.1 + 40), .ref (K.1 + 41)]), .inr (0, 60, fun _ => .int 0), .inr (0, 60, fun _ => .int 0), .inr (0, 60, fun _ => .int 0), .inr (1, 60, fun _ => .int 0), .inr (1, 24000, fun _ => .int 0), .inr (0, 60, fun _ => .int 0), .inr (0, 60, fun _ => .int 0), .inr (0, 60, fun _ => .int 0), .inr (0, 60, fun _ => .int 0), .inr (0, 60, fun _ => .int 0), .inr (0, 60, fun _ => .int 0), .inr (0, 60, fun _ => .int 0), .inr (0, 60, fun _ => .int 0), .inr (0, 60, fun _ => .int 0), .inr (0, 60, fun _ => .int 0), .inr (1, 400, fun _ => .int 0), .inr (0, 400, fun _ => .int 0), .inr (0, 400, fun _ => .int 0), .inr (0, 400, fun _ => .int 0), .inr (0, 400, fun _ => .int 0), .inr (1, 400, fun _ => .int 0), .inr (0, 400, fun _ => .int 0), .inr (0, 400, fun _ => .int 0), .inr (0, 400, fun _ => .int 0), .inr (0, 400, fun _ => .int 0), .inr (0, 400, fun _ => .int 0), .inr (0, 400, fun _ => .int 0), .inr (0, 400, fun _ => .int 0), .inr (0, 400, fun _ => .int 0), .inr (0, 9600, fun _ => .int 0), .inr (0, 400, fun _ => .int 0), .inr (1, 400, fun _ => .int 0), .inr (0, 12, fun _ => .int 0), .inr (0, 12, fun _ => .int 0), .inr (0, 300, fun _ => .int 0), .inr (0, 300, fun _ => .int 0), .inr (0, 300, fun _ => .int 0), .inr (0, 400, fun _ => .int 0), .inr (0, 60, fun _ => .int 0), .inr (0, 600, fun _ => .int 0), .inr (0, 3200, fun _ => .int 0)] 46080) := by
  have rx : ∀ {L : List xE} {m n : Nat}, L.length ≤ 90 → m + n ≤ 60000 → xrm g (tb K L m) n = true := fun h1 h2 => rq_rm (rq_tb6 hr (by omega) h2)
  have c12 : Int32.toNatClampNeg 12 = 12 := by decide
  have p12 : (0 : Int32) ≤ 12 := by decide
  have c60 : Int32.toNatClampNeg 60 = 60 := by decide
  have p60 : (0 : Int32) ≤ 60 := by decide
  have c300 : Int32.toNatClampNeg 300 = 300 := by decide
  have p300 : (0 : Int32) ≤ 300 := by decide
  have c400 : Int32.toNatClampNeg 400 = 400 := by decide
  have p400 : (0 : Int32) ≤ 400 := by decide
  have c600 : Int32.toNatClampNeg 600 = 600 := by decide
  have p600 : (0 : Int32) ≤ 600 := by decide
  have c3200 : Int32.toNatClampNeg 3200 = 3200 := by decide
  have p3200 : (0 : Int32) ≤ 3200 := by decide
  have c9600 : Int32.toNatClampNeg 9600 = 9600 := by decide
  have p9600 : (0 : Int32) ≤ 9600 := by decide
  have c24000 : Int32.toNatClampNeg 24000 = 24000 := by decide
  have p24000 : (0 : Int32) ≤ 24000 := by decide
  simp (config := { maxDischargeDepth := 6 }) only [e_X10_init_0, e_X10_init_1, e_X10_init_4, e_X10_init_5, e_X10_init_7, e_X10_init_9, e_X10_init_12, e_X10_init_13, e_X10_init_15, e_X10_init_17, e_X10_init_20, e_X10_init_21, e_X10_init_23, e_X10_init_25, e_X10_init_28, e_X10_init_29, e_X10_init_31, e_X10_init_33, e_X10_init_36, e_X10_init_37, e_X10_init_40, e_X10_init_42, e_X10_init_45, e_X10_init_46, e_X10_init_48, e_X10_init_50, e_X10_init_53, e_X10_init_54, e_X10_init_56, e_X10_init_58, e_X10_init_61, e_X10_init_62, e_X10_init_64, e_X10_init_66, e_X10_init_69, e_X10_init_70, e_X10_init_72, e_X10_init_74, e_X10_init_77, e_X10_init_78, e_X10_init_80, e_X10_init_82, e_X10_init_85, e_X10_init_86, e_X10_init_88, e_X10_init_90, e_X10_init_93, e_X10_init_94, e_X10_init_96, e_X10_init_98, e_X10_init_101, e_X10_init_102, e_X10_init_104, e_X10_init_106, e_X10_init_109, e_X10_init_110, e_X10_init_112, e_X10_init_114, e_X10_init_117, e_X10_init_118, e_X10_init_120, e_X10_init_122, e_X10_init_125, e_X10_init_126, e_X10_init_129, e_X10_init_131, e_X10_init_134, e_X10_init_135, e_X10_init_138, e_X10_init_140, e_X10_init_143, e_X10_init_144, e_X10_init_147, e_X10_init_149, e_X10_init_152, e_X10_init_153, e_X10_init_156, e_X10_init_158, e_X10_init_161, e_X10_init_162, e_X10_init_165, e_X10_init_167, e_X10_init_170, e_X10_init_171, e_X10_init_174, e_X10_init_176, e_X10_init_179, e_X10_init_180, e_X10_init_183, e_X10_init_185, e_X10_init_188, e_X10_init_189, e_X10_init_192, e_X10_init_194, e_X10_init_197, e_X10_init_198, e_X10_init_201, e_X10_init_203, e_X10_init_206, e_X10_init_207, e_X10_init_210, e_X10_init_212, e_X10_init_215, e_X10_init_216, e_X10_init_219, e_X10_init_221, e_X10_init_224, e_X10_init_225, e_X10_init_228, e_X10_init_230, e_X10_init_233, e_X10_init_234, e_X10_init_237, e_X10_init_239, e_X10_init_242, e_X10_init_243, e_X10_init_246, e_X10_init_248, e_X10_init_251, e_X10_init_252, e_X10_init_255, e_X10_init_257, e_X10_init_260, e_X10_init_261, e_X10_init_264, e_X10_init_266, e_X10_init_269, e_X10_init_270, e_X10_init_273, e_X10_init_275, e_X10_init_278, e_X10_init_279, e_X10_init_281, e_X10_init_283, e_X10_init_286, e_X10_init_287, e_X10_init_289, e_X10_init_291, e_X10_init_294, e_X10_init_295, e_X10_init_296, e_X10_init_299, e_X10_init_300, e_X10_init_302, e_X10_init_305, e_X10_init_306, e_X10_init_307, e_X10_init_310, e_X10_init_311, e_X10_init_312, e_X10_init_315, e_X10_init_316, e_X10_init_319, e_X10_init_321, e_X10_init_324, e_X10_init_325, e_X10_init_328, e_X10_init_330, e_X10_init_333, e_X10_init_334, e_X10_init_337, e_X10_init_339, e_X10_init_342, e_X10_init_343, e_X10_init_346, e_X10_init_348, e_X10_init_351, e_X10_init_352, e_X10_init_354, e_X10_init_356, e_X10_init_359, e_X10_init_360, e_X10_init_363, e_X10_init_365, e_X10_init_368, e_X10_init_369, e_X10_init_372, e_X10_init_374, e_X10_init_377, c12, p12, c60, p60, c300, p300, c400, p400, c600, p600, c3200, p3200, c9600, p9600, c24000, p24000, rx, tb_1, tb_Oc, tb_pc, tb_nw, xdf, List.length_cons, List.length_nil, List.set, List.cons_append, List.nil_append, Nat.reduceAdd, Nat.reduceLT, Nat.reduceLeDiff, Nat.add_assoc, hb, nem, su_get, z1e0, z2e0, z3e0, z4e0, z5e0, z0e1, zme0, Nat.reduceEqDiff, not_true_eq_false, and_self, false_or, or_false, or_self,  bI_eq0, bI_eq1, i10, i20, i30, i00, ne_eq, Decidable.not_not, true_and, and_true, false_and, and_false, xrd_ref, xrd_null, xrd_rf, xid_int, xcat_int, xcat_ref, xcat_null, xcat_long, xcat_rf, xfit_int, xfit_0, xfit_1, xfit_ref, xfit_null, xfit_rf, not_false_eq_true, ↓reduceIte, z01_0, z01_1, bI_01, true_or, or_true, List.map_nil, List.sum_nil, Nat.zero_le]
theorem mF0 : oF [.int 0, .int 0, .int 0, .ref (K.1 + 1), .ref (K.1 + 2), .ref (K.1 + 3), .ref (K.1 + 4), .ref (K.1 + 5), .ref (K.1 + 6), .ref (K.1 + 7), .ref (K.1 + 8), .ref (K.1 + 9), .ref (K.1 + 10), .ref (K.1 + 11), .ref (K.1 + 12), .ref (K.1 + 13), .ref (K.1 + 14), .ref (K.1 + 15), .int 0, .int 0, .ref (K.1 + 16), .ref (K.1 + 17), .ref (K.1 + 18), .ref (K.1 + 19), .ref (K.1 + 20), .ref (K.1 + 21), .ref (K.1 + 22), .ref (K.1 + 23), .ref (K.1 + 24), .ref (K.1 + 25), .ref (K.1 + 26), .ref (K.1 + 27), .ref (K.1 + 28), .ref (K.1 + 29), .ref (K.1 + 30), .ref (K.1 + 31), .ref (K.1 + 32), .int 0, .ref (K.1 + 33), .ref (K.1 + 34), .int 1, .int 8, .int 4, .int 4, .ref (K.1 + 35), .ref (K.1 + 36), .ref (K.1 + 37), .int 0, .int 0, .int 0, .ref (K.1 + 38), .ref (K.1 + 39), .int 0, .int 0, .ref (K.1 + 40), .ref (K.1 + 41)] = mF K.1 s00 := by
  funext k
  match k with
  | 0 => rfl
  | 1 => rfl
  | 2 => rfl
  | 3 => rfl
  | 4 => rfl
  | 5 => rfl
  | 6 => rfl
  | 7 => rfl
  | 8 => rfl
  | 9 => rfl
  | 10 => rfl
  | 11 => rfl
  | 12 => rfl
  | 13 => rfl
  | 14 => rfl
  | 15 => rfl
  | 16 => rfl
  | 17 => rfl
  | 18 => rfl
  | 19 => rfl
  | 20 => rfl
  | 21 => rfl
  | 22 => rfl
  | 23 => rfl
  | 24 => rfl
  | 25 => rfl
  | 26 => rfl
  | 27 => rfl
  | 28 => rfl
  | 29 => rfl
  | 30 => rfl
  | 31 => rfl
  | 32 => rfl
  | 33 => rfl
  | 34 => rfl
  | 35 => rfl
  | 36 => rfl
  | 37 => rfl
  | 38 => rfl
  | 39 => rfl
  | 40 => rfl
  | 41 => rfl
  | 42 => rfl
  | 43 => rfl
  | 44 => rfl
  | 45 => rfl
  | 46 => rfl
  | 47 => rfl
  | 48 => rfl
  | 49 => rfl
  | 50 => rfl
  | 51 => rfl
  | 52 => rfl
  | 53 => rfl
  | 54 => rfl
  | 55 => rfl
  | n + 56 => rfl
theorem mp0 : tb K [.inl (11, oF [.int 0, .int 0, .int 0, .ref (K.1 + 1), .ref (K.1 + 2), .ref (K.1 + 3), .ref (K.1 + 4), .ref (K.1 + 5), .ref (K.1 + 6), .ref (K.1 + 7), .ref (K.1 + 8), .ref (K.1 + 9), .ref (K.1 + 10), .ref (K.1 + 11), .ref (K.1 + 12), .ref (K.1 + 13), .ref (K.1 + 14), .ref (K.1 + 15), .int 0, .int 0, .ref (K.1 + 16), .ref (K.1 + 17), .ref (K.1 + 18), .ref (K.1 + 19), .ref (K.1 + 20), .ref (K.1 + 21), .ref (K.1 + 22), .ref (K.1 + 23), .ref (K.1 + 24), .ref (K.1 + 25), .ref (K.1 + 26), .ref (K.1 + 27), .ref (K.1 + 28), .ref (K.1 + 29), .ref (K.1 + 30), .ref (K.1 + 31), .ref (K.1 + 32), .int 0, .ref (K.1 + 33), .ref (K.1 + 34), .int 1, .int 8, .int 4, .int 4, .ref (K.1 + 35), .ref (K.1 + 36), .ref (K.1 + 37), .int 0, .int 0, .int 0, .ref (K.1 + 38), .ref (K.1 + 39), .int 0, .int 0, .ref (K.1 + 40), .ref (K.1 + 41)]), .inr (0, 60, fun _ => .int 0), .inr (0, 60, fun _ => .int 0), .inr (0, 60, fun _ => .int 0), .inr (1, 60, fun _ => .int 0), .inr (1, 24000, fun _ => .int 0), .inr (0, 60, fun _ => .int 0), .inr (0, 60, fun _ => .int 0), .inr (0, 60, fun _ => .int 0), .inr (0, 60, fun _ => .int 0), .inr (0, 60, fun _ => .int 0), .inr (0, 60, fun _ => .int 0), .inr (0, 60, fun _ => .int 0), .inr (0, 60, fun _ => .int 0), .inr (0, 60, fun _ => .int 0), .inr (0, 60, fun _ => .int 0), .inr (1, 400, fun _ => .int 0), .inr (0, 400, fun _ => .int 0), .inr (0, 400, fun _ => .int 0), .inr (0, 400, fun _ => .int 0), .inr (0, 400, fun _ => .int 0), .inr (1, 400, fun _ => .int 0), .inr (0, 400, fun _ => .int 0), .inr (0, 400, fun _ => .int 0), .inr (0, 400, fun _ => .int 0), .inr (0, 400, fun _ => .int 0), .inr (0, 400, fun _ => .int 0), .inr (0, 400, fun _ => .int 0), .inr (0, 400, fun _ => .int 0), .inr (0, 400, fun _ => .int 0), .inr (0, 9600, fun _ => .int 0), .inr (0, 400, fun _ => .int 0), .inr (1, 400, fun _ => .int 0), .inr (0, 12, fun _ => .int 0), .inr (0, 12, fun _ => .int 0), .inr (0, 300, fun _ => .int 0), .inr (0, 300, fun _ => .int 0), .inr (0, 300, fun _ => .int 0), .inr (0, 400, fun _ => .int 0), .inr (0, 60, fun _ => .int 0), .inr (0, 600, fun _ => .int 0), .inr (0, 3200, fun _ => .int 0)] 46080 = mput K.1 s00 (K.1 + 42, K.2.1 + 46080, K.2.2) := by
  have h3 : ∀ a, (tb K [.inl (11, oF [.int 0, .int 0, .int 0, .ref (K.1 + 1), .ref (K.1 + 2), .ref (K.1 + 3), .ref (K.1 + 4), .ref (K.1 + 5), .ref (K.1 + 6), .ref (K.1 + 7), .ref (K.1 + 8), .ref (K.1 + 9), .ref (K.1 + 10), .ref (K.1 + 11), .ref (K.1 + 12), .ref (K.1 + 13), .ref (K.1 + 14), .ref (K.1 + 15), .int 0, .int 0, .ref (K.1 + 16), .ref (K.1 + 17), .ref (K.1 + 18), .ref (K.1 + 19), .ref (K.1 + 20), .ref (K.1 + 21), .ref (K.1 + 22), .ref (K.1 + 23), .ref (K.1 + 24), .ref (K.1 + 25), .ref (K.1 + 26), .ref (K.1 + 27), .ref (K.1 + 28), .ref (K.1 + 29), .ref (K.1 + 30), .ref (K.1 + 31), .ref (K.1 + 32), .int 0, .ref (K.1 + 33), .ref (K.1 + 34), .int 1, .int 8, .int 4, .int 4, .ref (K.1 + 35), .ref (K.1 + 36), .ref (K.1 + 37), .int 0, .int 0, .int 0, .ref (K.1 + 38), .ref (K.1 + 39), .int 0, .int 0, .ref (K.1 + 40), .ref (K.1 + 41)]), .inr (0, 60, fun _ => .int 0), .inr (0, 60, fun _ => .int 0), .inr (0, 60, fun _ => .int 0), .inr (1, 60, fun _ => .int 0), .inr (1, 24000, fun _ => .int 0), .inr (0, 60, fun _ => .int 0), .inr (0, 60, fun _ => .int 0), .inr (0, 60, fun _ => .int 0), .inr (0, 60, fun _ => .int 0), .inr (0, 60, fun _ => .int 0), .inr (0, 60, fun _ => .int 0), .inr (0, 60, fun _ => .int 0), .inr (0, 60, fun _ => .int 0), .inr (0, 60, fun _ => .int 0), .inr (0, 60, fun _ => .int 0), .inr (1, 400, fun _ => .int 0), .inr (0, 400, fun _ => .int 0), .inr (0, 400, fun _ => .int 0), .inr (0, 400, fun _ => .int 0), .inr (0, 400, fun _ => .int 0), .inr (1, 400, fun _ => .int 0), .inr (0, 400, fun _ => .int 0), .inr (0, 400, fun _ => .int 0), .inr (0, 400, fun _ => .int 0), .inr (0, 400, fun _ => .int 0), .inr (0, 400, fun _ => .int 0), .inr (0, 400, fun _ => .int 0), .inr (0, 400, fun _ => .int 0), .inr (0, 400, fun _ => .int 0), .inr (0, 9600, fun _ => .int 0), .inr (0, 400, fun _ => .int 0), .inr (1, 400, fun _ => .int 0), .inr (0, 12, fun _ => .int 0), .inr (0, 12, fun _ => .int 0), .inr (0, 300, fun _ => .int 0), .inr (0, 300, fun _ => .int 0), .inr (0, 300, fun _ => .int 0), .inr (0, 400, fun _ => .int 0), .inr (0, 60, fun _ => .int 0), .inr (0, 600, fun _ => .int 0), .inr (0, 3200, fun _ => .int 0)] 46080).2.2 a = (mput K.1 s00 (K.1 + 42, K.2.1 + 46080, K.2.2)).2.2 a := by
    intro a
    by_cases e : K.1 ≤ a ∧ a ≤ K.1 + 41
    · obtain ⟨c, rfl⟩ : ∃ c, a = K.1 + c := ⟨a - K.1, by omega⟩
      have hc : c < 42 := by omega
      rw [tb_get hc, mput_at (by omega)]
      match c, hc with
      | 0, _ => exact congrArg (fun f : Nat → Value => (some (Sum.inl (11, f)) : Option xE)) mF0
      | 1, _ => rfl
      | 2, _ => rfl
      | 3, _ => rfl
      | 4, _ => rfl
      | 5, _ => rfl
      | 6, _ => rfl
      | 7, _ => rfl
      | 8, _ => rfl
      | 9, _ => rfl
      | 10, _ => rfl
      | 11, _ => rfl
      | 12, _ => rfl
      | 13, _ => rfl
      | 14, _ => rfl
      | 15, _ => rfl
      | 16, _ => rfl
      | 17, _ => rfl
      | 18, _ => rfl
      | 19, _ => rfl
      | 20, _ => rfl
      | 21, _ => rfl
      | 22, _ => rfl
      | 23, _ => rfl
      | 24, _ => rfl
      | 25, _ => rfl
      | 26, _ => rfl
      | 27, _ => rfl
      | 28, _ => rfl
      | 29, _ => rfl
      | 30, _ => rfl
      | 31, _ => rfl
      | 32, _ => rfl
      | 33, _ => rfl
      | 34, _ => rfl
      | 35, _ => rfl
      | 36, _ => rfl
      | 37, _ => rfl
      | 38, _ => rfl
      | 39, _ => rfl
      | 40, _ => rfl
      | 41, _ => rfl
      | n + 42, hc => exact absurd hc (by omega)
    · simp only [tb, mput]
      rw [if_neg e]
      by_cases e2 : K.1 ≤ a
      · rw [if_pos e2, List.getElem?_eq_none (by simp only [List.length_cons, List.length_nil]; omega), Option.none_or]
      · rw [if_neg e2, Option.none_or]
  exact congrArg (fun f => (K.1 + 42, K.2.1 + 46080, f)) (funext h3)
end RB
