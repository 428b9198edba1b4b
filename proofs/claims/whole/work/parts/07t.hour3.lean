/-! ===== the class's hour, whole ===== -/
theorem nI_z {T : Nat} (h : T < 2 ^ 31) : nI T = 0 ↔ T = 0 := by
  rw [← nI_0]; exact nI_eq h (by decide)
section CT
variable {g : Nat × Nat × Nat} {A : Nat → Nat → Nat} {z : zT} {s o : mS} {P S : Nat}
theorem hrA_own (P L : Nat) (s : mS) : ∀ F j, ownS F j ≠ (99, 0) → hrA P L s F j = su s 47 0 0 F j := by
  intro F j h
  obtain ⟨h1, h2, h3, h4, h5⟩ := own_lt h
  unfold hrA
  rw [bgS_o _ _ _ _ h5]
  simp only [su_get]
  by_cases e : F = 47 ∧ j = 0
  · rw [if_pos e, if_pos e]
  · rw [if_neg e, if_neg e, f_keep_o _ (Or.inl (by omega)), su_other _ _ h2]
theorem cd_hour {T L B : Nat} {a1 : Option Value} (hz : zo g A z o P S) (hP : s 2 0 = nI P) (hS : s 19 0 = nI S) (hT : s 1 0 = nI T) (hT2 : T < 9599) (hco : core s o P S L T) (hst : stat s o P S B) (hc : L ≤ z.1.2.2 3) : ∃ z' o' L', zo g A z' o' P S ∧ zle g A z z' P S ∧ L' ≤ z'.1.2.2 3 ∧ core (f_hour P L S B (T + 1) s).2 o' P S L' (T + 1) ∧ kpt s o o' P S L ∧ o' 60 0 = 1 ∧ (∀ F j, F = 61 ∨ F = 62 ∨ F = 90 ∨ F = 93 → o' F j = o F j) ∧ (∀ k j, ((1 < k ∧ k < 8) ∨ (18 < k ∧ k < 26) ∨ (33 < k ∧ k < 44)) → (f_hour P L S B (T + 1) s).2 k j = s k j) ∧ (f_hour P L S B (T + 1) s).2 1 0 = nI (T + 1) ∧ Ev g 65 0 [some (.ref (A 0 0)), a1] [] (cp A z s o) (.inl (some (.int (f_hour P L S B (T + 1) s).1)), cp A z' (f_hour P L S B (T + 1) s).2 o') := by
  have hY := hz.1
  have hP60 := hY.2.2.2.2.2.1.1
  have hS4 := hY.2.2.2.2.2.1.2
  obtain ⟨hl, hsh, hpl, hgw, hdI, hnow⟩ := hco
  obtain ⟨⟨hkk, hw, ht⟩, hln, hsb, hse, hdo, hb20, hB, hB12⟩ := hst
  have hLP := hl.2.1
  -- kept
  obtain ⟨z1, o1, c1, c2, c3, c4, c5, c6⟩ := cd_keep (g := g) (A := A) (s := s) (a1 := none) hz hP hS hl hc
  have hY1 := c1.1
  have hc1 : L ≤ z1.1.2.2 3 := Nat.le_trans hc (c2.2.2.2.2 3)
  have k2 := cd_logClear (g := g) (A := A) (z := z1) (s := s) (o := o1) hY1
  have e47 : ∀ F j, F ≠ 47 → su s 47 0 0 F j = s F j := fun F j h => su_other _ _ h
  have l1 : lOK (su s 47 0 0) P L := lOK_o hl (fun j => e47 _ _ (by decide)) (e47 _ _ (by decide))
  have k3 := cd_mark (g := g) (A := A) (z := z1) (s := su s 47 0 0) (o := o1) (a1 := none) hY1 l1 hc1
  have mk := mkO_66 hP60 l1 L 0 o1 (by omega)
  have mo : ∀ F j, F ≠ 66 → mkO (su s 47 0 0) L 0 o1 F j = o1 F j := fun F j h => mkO_o _ _ _ _ h j
  generalize ho2 : mkO (su s 47 0 0) L 0 o1 = o2 at k3 mk mo
  have z1o : zo g A z1 o2 P S := zo_o c1 (mo _ _ (by decide)) (mo _ _ (by decide)) (mo _ _ (by decide)) (fun j => mo _ _ (by decide)) (fun j => mo _ _ (by decide)) (fun j => mo _ _ (by decide))
  have o2o : ∀ F j, (F < 60 ∨ (60 < F ∧ F < 63) ∨ (63 < F ∧ F < 66) ∨ (66 < F ∧ F < 70) ∨ F = 90 ∨ F = 92 ∨ F = 93 ∨ 94 < F) → o2 F j = o F j := fun F j h => by rw [mo _ _ (by omega)]; exact c3 F j (by omega)
  -- the state as the reference has it
  have oA : ∀ k j, k < 53 → k ≠ 16 → k ≠ 47 → k ≠ 0 → hrA P L s k j = s k j := fun k j q r t u => hrA_o P L s q r t u j
  have eA : cp A z1 (su s 47 0 0) o2 = cp A z1 (hrA P L s) o2 := (cp_congr (hrA_own P L s) (fun _ _ _ => rfl) hY1).symm
  have A47 : hrA P L s 47 0 = nI 0 := by
    unfold hrA
    rw [bgS_o _ _ _ _ (by decide), nI_0]
    simp [su]
  have A16 : ∀ p, p < P → hrA P L s 16 p = pl s (nI p) L 0 := by
    intro p hp
    unfold hrA
    rw [bgS_16, if_pos (by omega), pl_su _ (by decide)]
    exact pl_o _ _ (fun j => by rw [f_keep_o _ (Or.inl (by decide)), su_other _ _ (by decide)]) _ _ _
  unfold f_hour
  generalize hrA P L s = sA at oA eA A47 A16 ⊢
  have oA' : ∀ k j, (k < 16 ∨ (16 < k ∧ k < 47)) → k ≠ 0 → sA k j = s k j := fun k j h h0 => oA k j (by omega) (by omega) (by omega) h0
  have lA : lOK sA P L := lOK_o hl (fun j => oA' _ _ (by decide) (by decide)) (oA' _ _ (by decide) (by decide))
  have inA : ∀ v, inL sA L v → inL s L v := fun v hv => inL_o hv (fun j => (oA' _ _ (by decide) (by decide)).symm)
  -- marked places
  have BG : ∀ p, p < P → ¬ sA 16 p = -1 → ∃ b, b < L ∧ sA 16 p = nI b ∧ o2 66 p = nI b ∧ s 17 b = nI p := by
    intro p hp h
    rw [A16 p hp] at h ⊢
    obtain ⟨K, K1, K2, K3⟩ := inL_pl ((inL_iff hl hP60).mpr h)
    refine ⟨K, K1, K2, ?_, K3⟩
    have := mk.1 K (Nat.zero_le _) K1
    rw [e47 _ _ (by decide), K3, nI_clamp (by omega)] at this
    exact this
  have vA : siv sA P S L (T + 1) := by
    refine ⟨lA, fun x hx => shI_o (hsh x hx) (fun F h1 h2 => oA' _ _ (by omega) (by omega)) (fun p _ q1 q2 => ⟨by rw [oA' _ _ (by decide) (by decide)]; exact q1, by rw [oA' _ _ (by decide) (by decide)]; exact q2⟩), ⟨fun p hp => ?_, fun p hp hi => ?_⟩, ⟨fun x hx q1 q2 => ?_, fun p hp hi => ?_⟩⟩
    · rw [oA' _ _ (by decide) (by decide), oA' _ _ (by decide) (by decide)]; exact hpl.1 p hp
    · rw [oA' _ _ (by decide) (by decide)]; exact hpl.2 p hp (inA _ hi)
    · rw [oA' _ _ (by decide) (by decide)] at q1 q2
      obtain ⟨W, W1, W2⟩ := hgw x hx q1
      rw [W2] at q2
      have := (nI_eq (by omega) (by omega)).mp q2
      omega
    · rw [A16 p hp]
      exact (inL_iff hl hP60).mp (inA _ hi)
  have wA : wOK sA P S := fun x hx => by rw [oA' _ _ (by decide) (by decide)]; exact hw x hx
  have TA : sA 1 0 = nI T := by rw [oA' _ _ (by decide) (by decide)]; exact hT
  have seA : ∀ t, soS sA t B 0 0 = soS s t B 0 0 := fun t => soS_o (fun j => oA' _ _ (by decide) (by decide)) (fun j => oA' _ _ (by decide) (by decide)) B 0 0
  have lnA : ln sA = ln s := funext fun y => by simp only [ln]; rw [oA' _ _ (by decide) (by decide)]
  have sbA : sbOK sA o2 S := by
    refine ⟨fun j hj => ?_, fun i j h1 h2 => ?_⟩
    · rw [o2o _ _ (by omega)]; exact hsb.1 j hj
    · rw [lnA, o2o _ _ (by omega), o2o _ _ (by omega)]; exact hsb.2 i j h1 h2
  obtain ⟨z2, o3, L2, d1, d2, d3, d4⟩ := cd_sendShips (g := g) (A := A) (z := z1) (s := sA) (o := o2) (H := T + 1) (L := L) (B := 0) (T := T) (a2 := none) (a3 := none) (a4 := none) (Bn := B) (by omega) TA (by omega) z1o sbA vA hc1 (fun p hp => by rw [oA' _ _ (by decide) (by decide)]; exact hkk p hp) wA (fun d hd => by rw [oA' _ _ (by decide) (by decide), oA' _ _ (by decide) (by decide)]; exact ht d hd) (by rw [oA' _ _ (by decide) (by decide)]; exact hP) A47 (by decide) (by
    rw [o2o _ _ (by omega), hse _ (by omega), seA, TA, soS_clock s (show T < 2 ^ 31 by omega)])
  -- what it left
  have oB : ∀ k j, k ≠ 49 → hrB B sA k j = sA k j := fun k j h => su_other _ _ h
  obtain ⟨kp1, kp2, kp3⟩ := hrQ_keeps (s := hrB B sA) (S := S) (L := L) (H := T + 1) hP60 hS4 (lOK_o lA (fun j => oB _ _ (by decide)) (oB _ _ (by decide))) (fun x hx => by rw [oB _ _ (by decide)]; exact wA x hx) (by rw [oB _ _ (by decide)]; exact A47)
  have oB' : ∀ k j, k ≠ 49 → hrB B sA k j = sA k j := oB
  generalize hrB B sA = sB at oB' kp1 kp2 kp3 d3 d4 ⊢
  generalize hrQ S (T + 1) sB = rr at kp1 kp2 kp3 d3 d4 ⊢
  obtain ⟨n, sR⟩ := rr
  simp only at kp1 kp2 kp3 d3 d4 ⊢
  have oR : ∀ k j, ((0 < k ∧ k < 8) ∨ (9 < k ∧ k < 13) ∨ (13 < k ∧ k < 16) ∨ (18 < k ∧ k < 26) ∨ (33 < k ∧ k < 44)) → sR k j = s k j := fun k j h => by
    rw [kp1 k j (by omega), oB' _ _ (by omega), oA' _ _ (by omega) (by omega)]
  have R16 : ∀ j, sR 16 j = sA 16 j := fun j => by rw [kp1 _ _ (by decide), oB' _ _ (by decide)]
  have r8 : R8 s sR := R8_trans (R8_o (fun j => ⟨by rw [oB' _ _ (by decide), oA' _ _ (by decide) (by decide)], by rw [oB' _ _ (by decide), oA' _ _ (by decide) (by decide)]⟩)) kp2
  have r27 : ∀ j, (sR 26 j = s 26 j ∧ sR 27 j = s 27 j) ∨ sR 27 j = nI (T + 1) := by
    intro j
    have := kp3 j
    rw [oB' 26 _ (by decide), oB' 27 _ (by decide), oA' 26 _ (by decide) (by decide), oA' 27 _ (by decide) (by decide)] at this
    exact this
  have z2o := d1.1
  have hY2 := z2o.1
  have o3o : ∀ F j, F ≠ 63 → F ≠ 92 → F ≠ 95 → o3 F j = o2 F j := d1.2.2
  have dR : dI sR o3 P := by
    refine ⟨fun p hp h8 => ?_, fun p hp h8 => ?_, fun p hp h8 => (d3.2.2.1.1 p hp).2 h8⟩
    · rcases r8 p with q | q
      · rw [o3o _ _ (by decide) (by decide) (by decide), o2o _ _ (by omega), q.2]
        exact hdI.1 p hp (by rw [← q.1]; exact h8)
      · rw [q] at h8; exact absurd h8 (by decide)
    · rcases r8 p with q | q
      · rw [o3o _ _ (by decide) (by decide) (by decide), o2o _ _ (by omega), oR _ _ (by omega)]
        exact hdI.2.1 p hp (by rw [← q.1]; exact h8)
      · rw [q] at h8; exact absurd h8 (by decide)
  have R1 : sR 1 0 = nI T := by rw [oR _ _ (by omega)]; exact hT
  have R2 : sR 2 0 = nI P := by rw [oR _ _ (by omega)]; exact hP
  have R19 : sR 19 0 = nI S := by rw [oR _ _ (by omega)]; exact hS
  have seR : ∀ t, soS sR t B 0 0 = soS s t B 0 0 := fun t => soS_o (fun j => oR _ _ (by omega)) (fun j => oR _ _ (by omega)) B 0 0
  have eN : ∃ N, N < 2 ^ 31 ∧ hrN B sR = N ∧ (if T = 0 then 0 else o3 62 ((T - 1) % 24)) = nI N := by
    unfold hrN
    rw [R1]
    by_cases w : T = 0
    · refine ⟨0, by decide, ?_, ?_⟩
      · rw [if_pos ((nI_z (by omega)).mpr w)]; decide
      · rw [if_pos w, nI_0]
    · rw [if_neg (fun q => w ((nI_z (by omega)).mp q)), if_neg w, nI_s1 (by omega), seR]
      obtain ⟨m, m1, m2⟩ := soN (t := nI (T - 1)) hb20 B 0 0 (by omega)
      rw [nI_0] at m2
      refine ⟨m, by omega, by rw [m2, nI_clamp (by omega)], ?_⟩
      rw [o3o _ _ (by decide) (by decide) (by decide), o2o _ _ (by omega), hse _ (by omega), ← soS_clock s (show T - 1 < 2 ^ 31 by omega), m2]
  obtain ⟨N, N1, N2, N3⟩ := eN
  obtain ⟨o4, f1, f2, f3⟩ := cd_bring (g := g) (A := A) (z := z2) (s := sR) (o := o3) (N := N) (T := T) (a3 := none) z2o R2 dR.1 dR.2.2 R1 (by omega) N3 N1
  unfold hrC
  rw [N2]
  have z2o4 : zo g A z2 o4 P S := zo_o z2o (f1 _ _ (by decide)) (f1 _ _ (by decide)) (f1 _ _ (by decide)) (fun j => f1 _ _ (by decide)) (fun j => f1 _ _ (by decide)) (fun j => f1 _ _ (by decide))
  have g8 := gb8 hP60 N sR
  have oG : ∀ k j, k ≠ 8 → k ≠ 1 → su (gbS P N sR) 1 0 (nI (T + 1)) k j = sR k j := fun k j q r => by rw [su_other _ _ r, gbS_o _ _ _ q]
  have oG8 : ∀ j, su (gbS P N sR) 1 0 (nI (T + 1)) 8 j = gbS P N sR 8 j := fun j => su_other _ _ (by decide)
  have oG1 : su (gbS P N sR) 1 0 (nI (T + 1)) 1 0 = nI (T + 1) := by simp [su]
  generalize hsG : su (gbS P N sR) 1 0 (nI (T + 1)) = sG at oG oG8 oG1 ⊢
  have vG : siv sG P S L2 (T + 1) := siv_8 d3 (fun F j h1 h2 => oG F j h1 h2) (fun j => by
    rw [oG8]
    rcases g8 j with q | q
    · exact Or.inl q
    · exact Or.inr ⟨by rw [q.1]; decide, by rw [q.2]; decide⟩)
  have dG : dI sG o4 P := by
    refine ⟨fun p hp h8 => ?_, fun p hp h8 => ?_, fun p hp h8 => (vG.2.2.1.1 p hp).2 h8⟩
    · rw [oG8] at h8
      have := f2 p hp h8
      rw [gbS_o _ _ _ (by decide)] at this
      rw [oG _ _ (by decide) (by decide)]
      exact this
    · rw [oG8] at h8
      rcases g8 p with q | q
      · rw [f1 _ _ (by decide), oG _ _ (by decide) (by decide)]
        exact dR.2.1 p hp (by rw [← q]; exact h8)
      · rw [q.2] at h8; exact absurd h8 (by decide)
  obtain ⟨o5, p1, p2, p3, p4⟩ := cd_ends (g := g) (A := A) (z := z2) (s := sG) (o := o4) (H := T + 1) (L := L2) (a2 := none) (by omega) z2o4 (by rw [oG _ _ (by decide) (by decide)]; exact R19) oG1 vG (fun y hy => by rw [oG _ _ (by decide) (by decide), oR _ _ (by omega)]; exact hln y hy) dG
  have z2o5 : zo g A z2 o5 P S := zo_o z2o4 (p1 _ _ (by decide) (by decide)) (p1 _ _ (by decide) (by decide)) (p1 _ _ (by decide) (by decide)) (fun j => p1 _ _ (by decide) (by decide)) (fun j => p1 _ _ (by decide) (by decide)) (fun j => p1 _ _ (by decide) (by decide))
  have oE : ∀ k j, k < 8 ∨ 15 < k → k ≠ 26 → k ≠ 8 → k ≠ 1 → (enS (T + 1) S 0 sG) k j = sR k j := fun k j q r t u => by rw [enS_o _ _ _ _ q r, oG _ _ t u]
  have oE1 : (enS (T + 1) S 0 sG) 1 0 = nI (T + 1) := by rw [enS_o _ _ _ _ (by decide) (by decide)]; exact oG1
  have en26 : ∀ j, enS (T + 1) S 0 sG 26 j = 1 → sG 26 j = 1 := by
    have : ∀ (f x : Nat) (s : mS) (j : Nat), enS (T + 1) f x s 26 j = 1 → s 26 j = 1 := by
      intro f
      induction f with
      | zero => intro x s j h; exact h
      | succ f ih =>
        intro x s j h
        rw [enS] at h
        have := ih _ _ _ h
        by_cases w : s 26 x = 1 ∧ s 27 x + (1 + s 21 x / 100) = nI (T + 1)
        · rw [if_pos w] at this
          by_cases e : j = x
          · subst e; rw [f_ends_26x] at this; exact absurd this (by decide)
          · rw [f_ends_26 _ _ _ _ _ e] at this; exact this
        · rw [if_neg w] at this; exact this
    exact this S 0 sG
  generalize enS (T + 1) S 0 sG = sE at p2 p3 p4 oE oE1 en26 ⊢
  obtain ⟨o6, q1, q2, q3, q4⟩ := cd_roads (g := g) (A := A) (z := z2) (s := sE) (o := o5) (H := T + 1) (a2 := none) z2o5 (by rw [oE _ _ (by decide) (by decide) (by decide) (by decide)]; exact R2) oE1 p3.1 p3.2.1 p3.2.2
  have z2o6 : zo g A z2 o6 P S := zo_o z2o5 (q1 _ _ (by decide)) (q1 _ _ (by decide)) (q1 _ _ (by decide)) (fun j => q1 _ _ (by decide)) (fun j => q1 _ _ (by decide)) (fun j => q1 _ _ (by decide))
  have d8 := rd8 (T + 1) P 0 sE
  have oD : ∀ k j, k ≠ 8 → (rdS (T + 1) P 0 sE) k j = sE k j := fun k j t => rdS_o _ _ _ _ t j
  have vD : siv (rdS (T + 1) P 0 sE) P S L2 (T + 1) := siv_8 p2 (fun F j h1 h2 => oD F j h1) (fun j => by
    rcases d8 j with q | q
    · exact Or.inl q
    · exact Or.inr ⟨by rw [q.1]; decide, by rw [q.2]; decide⟩)
  generalize rdS (T + 1) P 0 sE = sD at q2 q3 q4 d8 oD vD ⊢
  obtain ⟨z3, o7, L3, t1, t2, t3, t4, t5⟩ := cd_list2 (g := g) (A := A) (z := z2) (s := sD) (o := o6) (H := T + 1) (L := L2) (a2 := none) (a3 := none) z2o6 (by rw [oD _ _ (by decide), oE _ _ (by decide) (by decide) (by decide) (by decide)]; exact R2) (by rw [oD _ _ (by decide)]; exact oE1) vD.1 (Nat.le_trans d2 (Nat.le_trans hc1 (d1.2.1.2.2.2.2 3)))
  have oL := (lsS_ok (H := T + 1) hP60 P 0 sD (by omega) ⟨L2, vD.1⟩).2
  have li := ls_in (H := T + 1) hP60 P 0 sD L2 (by omega) vD.1 L3 t3
  generalize lsS (T + 1) P 0 sD = sL at t3 t5 oL li ⊢
  have o52 : ∀ F j, F ≠ 52 → su sL 52 0 1 F j = sL F j := fun F j h => su_other _ _ h
  have oF : ∀ F j, F ≠ 17 → F ≠ 18 → F ≠ 52 → su sL 52 0 1 F j = sD F j := fun F j h1 h2 h3 => by rw [o52 _ _ h3, oL _ _ h1 h2]
  have fin : cp A z3 (su sL 52 0 1) o7 = cp A z3 sL o7 := by
    refine cp_congr (fun F j e => o52 F j ?_) (fun _ _ _ => rfl) t1.1.1
    have := (own_lt e).1
    omega
  have own : ∀ F j, F ≠ 63 → F ≠ 64 → F ≠ 65 → F ≠ 92 → F ≠ 95 → o7 F j = o2 F j := fun F j h1 h2 h3 h4 h5 => by
    rw [t2 _ _ h1, q1 _ _ h2, p1 _ _ h2 h3, f1 _ _ h2, o3o _ _ h1 h4 h5]
  have oEs : ∀ k j, k < 8 ∨ 15 < k → k ≠ 26 → k ≠ 8 → k ≠ 1 → k ≠ 17 → k ≠ 18 → k ≠ 52 → su sL 52 0 1 k j = sR k j := fun k j h1 h2 h3 h4 h5 h6 h7 => by
    rw [oF _ _ h5 h6 h7, oD _ _ h3, oE _ _ h1 h2 h3 h4]
  refine ⟨z3, o7, L3, t1.1, zle_trans (zle_trans c2 d1.2.1) t1.2.1, t4, ⟨?_, ?_, ?_, ?_, ?_, ?_⟩, ?_, ?_, ?_, ?_, ?_, ?_⟩
  · exact lOK_o t3 (fun j => o52 _ _ (by decide)) (o52 _ _ (by decide))
  · intro x hx
    exact shI_o (vD.2.1 x hx) (fun F h1 h2 => oF _ _ (by omega) (by omega) (by omega)) (fun p _ w1 w2 => ⟨by rw [oF _ _ (by decide) (by decide) (by decide)]; exact w1, by rw [oF _ _ (by decide) (by decide) (by decide)]; exact w2⟩)
  · refine ⟨fun p hp => ?_, fun p hp hi => ?_⟩
    · rw [oF _ _ (by decide) (by decide) (by decide), oF _ _ (by decide) (by decide) (by decide)]
      exact vD.2.2.1.1 p hp
    · rw [oF _ _ (by decide) (by decide) (by decide)]
      rcases li p hp (inL_o hi (fun j => (o52 _ _ (by decide)).symm)) with w | w | w
      · exact vD.2.2.1.2 p hp w
      · rw [w]; decide
      · rw [w]; decide
  · intro x hx h26
    rw [oF _ _ (by decide) (by decide) (by decide), oD _ _ (by decide)] at h26
    have h26 := en26 x h26
    rw [oG _ _ (by decide) (by decide)] at h26
    rw [oEs _ _ (by decide) (by decide) (by decide) (by decide) (by decide) (by decide) (by decide)]
    rcases r27 x with w | w
    · rw [w.1] at h26
      obtain ⟨W, W1, W2⟩ := hgw x hx h26
      exact ⟨W, by omega, by rw [w.2]; exact W2⟩
    · exact ⟨T + 1, Nat.le_refl _, w⟩
  · have dD : dI sD o6 P := by
      refine ⟨q2, fun p hp h8 => ?_, q3⟩
      rcases d8 p with w | w
      · rw [q1 _ _ (by decide), oD _ _ (by decide)]
        exact p3.2.1 p hp (by rw [← w]; exact h8)
      · rw [w.2] at h8; exact absurd h8 (by decide)
    refine ⟨fun p hp h8 => ?_, fun p hp h8 => ?_, fun p hp h8 => ?_⟩
    · rw [oF _ _ (by decide) (by decide) (by decide)] at h8 ⊢
      rw [t2 _ _ (by decide)]
      exact dD.1 p hp h8
    · rw [oF _ _ (by decide) (by decide) (by decide)] at h8 ⊢
      rw [t2 _ _ (by decide)]
      exact dD.2.1 p hp h8
    · rw [oF _ _ (by decide) (by decide) (by decide)] at h8 ⊢
      exact dD.2.2 p hp h8
  · intro x hx h26 h27 p hp hr
    have e16 : ∀ j, su sL 52 0 1 16 j = sA 16 j := fun j => by rw [oEs _ _ (by decide) (by decide) (by decide) (by decide) (by decide) (by decide) (by decide), R16]
    rw [oF 26 _ (by decide) (by decide) (by decide)] at h26
    rw [oF 27 _ (by decide) (by decide) (by decide)] at h27
    rw [oF 28 _ (by decide) (by decide) (by decide), oF 29 _ (by decide) (by decide) (by decide), oF 30 _ (by decide) (by decide) (by decide)] at hr
    have D16 : ∀ j, sD 16 j = sA 16 j := fun j => by rw [oD _ _ (by decide), oE _ _ (by decide) (by decide) (by decide) (by decide), R16]
    have m1 := vD.2.2.2.1 x hx h26 h27 p hp hr
    rw [D16] at m1
    obtain ⟨b, b1, b2, b3, b4⟩ := BG p hp m1
    refine ⟨⟨b, by omega, by rw [e16]; exact b2, by rw [own _ _ (by decide) (by decide) (by decide) (by decide) (by decide)]; exact b3⟩, fun y hy g26 g27 q hq hr2 he => ?_⟩
    rw [oF 26 _ (by decide) (by decide) (by decide)] at g26
    rw [oF 27 _ (by decide) (by decide) (by decide)] at g27
    rw [oF 28 _ (by decide) (by decide) (by decide), oF 29 _ (by decide) (by decide) (by decide), oF 30 _ (by decide) (by decide) (by decide)] at hr2
    rw [e16, e16] at he
    have m2 := vD.2.2.2.1 y hy g26 g27 q hq hr2
    rw [D16] at m2
    obtain ⟨b', b1', b2', b3', b4'⟩ := BG q hq m2
    rw [b2, b2'] at he
    have : b = b' := (nI_eq (by omega) (by omega)).mp he
    subst this
    rw [b4] at b4'
    exact (nI_eq (by omega) (by omega)).mp b4'
  · obtain ⟨w1, w2, w3, w4⟩ := c4
    refine ⟨fun q hq => ?_, fun x hx => ?_, ?_, fun j hj => ?_⟩
    · have := w1 q hq
      unfold kd at this ⊢
      have e : ∀ F, 70 ≤ F → F ≤ 78 → o7 F q = o1 F q := fun F h1 h2 => by rw [own _ _ (by omega) (by omega) (by omega) (by omega) (by omega), mo _ _ (by omega)]
      rw [e 70 (by decide) (by decide), e 71 (by decide) (by decide), e 72 (by decide) (by decide), e 73 (by decide) (by decide), e 74 (by decide) (by decide), e 75 (by decide) (by decide), e 76 (by decide) (by decide), e 77 (by decide) (by decide), e 78 (by decide) (by decide)]
      exact this
    · have := w2 x hx
      unfold kt at this ⊢
      have e : ∀ F, 80 ≤ F → F ≤ 87 → o7 F x = o1 F x := fun F h1 h2 => by rw [own _ _ (by omega) (by omega) (by omega) (by omega) (by omega), mo _ _ (by omega)]
      rw [e 80 (by decide) (by decide), e 81 (by decide) (by decide), e 82 (by decide) (by decide), e 83 (by decide) (by decide), e 84 (by decide) (by decide), e 85 (by decide) (by decide), e 86 (by decide) (by decide), e 87 (by decide) (by decide)]
      exact this
    · rw [own _ _ (by decide) (by decide) (by decide) (by decide) (by decide), mo _ _ (by decide)]; exact w3
    · rw [own _ _ (by decide) (by decide) (by decide) (by decide) (by decide), mo _ _ (by decide)]; exact w4 j hj
  · rw [own _ _ (by decide) (by decide) (by decide) (by decide) (by decide), mo _ _ (by decide)]; exact c5
  · intro F j h
    rw [own _ _ (by omega) (by omega) (by omega) (by omega) (by omega), o2o _ _ (by omega)]
  · intro k j h
    rw [oEs _ _ (by omega) (by omega) (by omega) (by omega) (by omega) (by omega) (by omega), oR _ _ (by omega)]
  · rw [oF _ _ (by decide) (by decide) (by decide), oD _ _ (by decide)]; exact oE1
  · rw [fin]
    have n1 : nI T < 9599 := by
      rw [Int32.lt_iff_toInt_lt, nI_toInt (by omega)]
      have : (9599 : Int32).toInt = 9599 := by decide
      omega
    rw [eA] at k3
    have g1 : ∀ s o, xO (cp A z2 s o) (A 0 0) 10 = true := fun s o => cO_0 hY2
    simp only [e_X9_hour_0, e_X9_hour_1, e_X9_hour_4, e_X9_hour_7, e_X9_hour_10, e_X9_hour_11, e_X9_hour_12, e_X9_hour_16, e_X9_hour_17, e_X9_hour_23, e_X9_hour_24, e_X9_hour_30, e_X9_hour_31, e_X9_hour_32, e_X9_hour_35, e_X9_hour_36, e_X9_hour_40, cO_0 hY, cg_0_10 hY, cO_0 hY1, cg_0_9 hY1, cg_0_6 hY1, cg_0_10 hY1, nem, su_get, z1e0, z2e0, z3e0, z4e0, z5e0, z0e1, zme0, Nat.reduceEqDiff, not_true_eq_false, and_self, false_or, or_false, or_self,  bI_eq0, bI_eq1, i10, i20, i30, i00, ne_eq, Decidable.not_not, true_and, and_true, false_and, and_false, xrd_ref, xrd_null, xrd_rf, xid_int, xcat_int, xcat_ref, xcat_null, xcat_long, xcat_rf, xfit_int, xfit_0, xfit_1, xfit_ref, xfit_null, xfit_rf, not_false_eq_true, ↓reduceIte, z01_0, z01_1, bI_01, true_or, or_true, hT, n1, c_X9_hour_13 _ c6, c_X9_hour_20 (cO_22 hY1) k2, c_X9_hour_27 (cO_19 hY1) k3, TA, nI_1, c_X9_hour_37 (cO_0 hY1) d4]
    have R1g : gbS P N sR 1 0 = nI T := by rw [gbS_o _ _ _ (by decide)]; exact R1
    simp only [e_X9_hour_41, e_X9_hour_45, e_X9_hour_46, e_X9_hour_47, e_X9_hour_50, e_X9_hour_51, e_X9_hour_52, e_X9_hour_55, e_X9_hour_59, e_X9_hour_63, e_X9_hour_67, e_X9_hour_68, cO_0 hY2, cg_0_10 hY2, cw_0_10 hY2, hb_0 hY2, nem, su_get, z1e0, z2e0, z3e0, z4e0, z5e0, z0e1, zme0, Nat.reduceEqDiff, not_true_eq_false, and_self, false_or, or_false, or_self,  bI_eq0, bI_eq1, i10, i20, i30, i00, ne_eq, Decidable.not_not, true_and, and_true, false_and, and_false, xrd_ref, xrd_null, xrd_rf, xid_int, xcat_int, xcat_ref, xcat_null, xcat_long, xcat_rf, xfit_int, xfit_0, xfit_1, xfit_ref, xfit_null, xfit_rf, not_false_eq_true, ↓reduceIte, z01_0, z01_1, bI_01, true_or, or_true, c_X9_hour_42 (cO_0 hY2) f3, R1g, nI_1, hsG, c_X9_hour_56 (cO_0 hY2) p4, c_X9_hour_60 (cO_0 hY2) q4, c_X9_hour_64 (cO_0 hY2) t5]
end CT
