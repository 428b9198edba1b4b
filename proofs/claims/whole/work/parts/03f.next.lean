section XN
variable {G : xG} {X : State → Prop} {l : Launch} {M pc : Nat} {L : List (Option Value)} {st : List Value} {h : xH} {out : xR}
set_option maxHeartbeats 4000000 in
theorem xnx_ok {i : Instr} {len : Nat} {q} (hd : decode (xcode M) pc = .ok (i, len)) (hl : xlen i len = true) (hx : xnx G.2.2.2.1 M pc i L st h = some q) (k : xP G X l M q.1 q.2.1 q.2.2.1 q.2.2.2 out) : xP G X l M pc L st h out := by
  cases i with
  | aload_n j =>
    have e : len = 1 := by simpa [xlen] using hl
    subst e
    exact xs_aload (fun a b c d => lv_aload_n a b hd rfl c d) (fun a b c d => lv_aload_nN a b hd rfl c d) hx k
  | aload j =>
    have e : len = 2 := by simpa [xlen] using hl
    subst e
    exact xs_aload (fun a b c d => lv_aload a b hd c d) (fun a b c d => lv_aloadN a b hd c d) hx k
  | iload_n j =>
    have e : len = 1 := by simpa [xlen] using hl
    subst e
    exact xs_iload (fun a b c d => lv_iload_n a b hd rfl c d) hx k
  | iload j =>
    have e : len = 2 := by simpa [xlen] using hl
    subst e
    exact xs_iload (fun a b c d => lv_iload a b hd c d) hx k
  | istore_n j =>
    have e : len = 1 := by simpa [xlen] using hl
    subst e
    exact xs_istore (fun a b c d f => lv_istore_n a b hd rfl c d rfl f) hx k
  | istore j =>
    have e : len = 2 := by simpa [xlen] using hl
    subst e
    exact xs_istore (fun a b c d f => lv_istore a b hd c d rfl f) hx k
  | astore_n j =>
    have e : len = 1 := by simpa [xlen] using hl
    subst e
    exact xs_astore (fun a b c d f => lv_astore_n a b hd rfl c d rfl f) (fun a b c d f => lv_astore_nN a b hd rfl c d rfl f) hx k
  | astore j =>
    have e : len = 2 := by simpa [xlen] using hl
    subst e
    exact xs_astore (fun a b c d f => lv_astore a b hd c d rfl f) (fun a b c d f => lv_astoreN a b hd c d rfl f) hx k
  | iinc j n =>
    have e : len = 3 := by simpa [xlen] using hl
    subst e
    simp only [xnx] at hx
    split at hx
    · rename_i x hv
      cases hx
      intro p e s m args below meth c H locs ls h0 C Z hL
      obtain ⟨i2, hi2⟩ := List.getElem?_of_mem (xent_mem.mpr hv)
      have hj : j < xmaxL M := by rw [← hL.2.2.1]; exact (List.getElem?_eq_some_iff.mp hv).1
      exact lv_iinc C.1 C.2.1 hd (xLoc_has hL) hi2 rfl hj rfl (fun ls' hls => k p e s m args below meth c H locs ls' h0 C Z (xLoc_set hL rfl hls))
    · cases hx
  | iconst n =>
    have e : len = 1 := by simpa [xlen] using hl
    subst e
    cases hx
    intro p e s m args below meth c H locs ls h0 C Z hL
    exact lv_iconst C.1 C.2.1 hd rfl (k p e s m args below meth c H locs ls h0 C Z hL)
  | bipush n =>
    have e : len = 2 := by simpa [xlen] using hl
    subst e
    cases hx
    intro p e s m args below meth c H locs ls h0 C Z hL
    exact lv_bipush C.1 C.2.1 hd rfl (k p e s m args below meth c H locs ls h0 C Z hL)
  | sipush n =>
    have e : len = 3 := by simpa [xlen] using hl
    subst e
    cases hx
    intro p e s m args below meth c H locs ls h0 C Z hL
    exact lv_sipush C.1 C.2.1 hd rfl (k p e s m args below meth c H locs ls h0 C Z hL)
  | lconst n =>
    have e : len = 1 := by simpa [xlen] using hl
    subst e
    cases hx
    intro p e s m args below meth c H locs ls h0 C Z hL
    exact lv_lconst C.1 C.2.1 hd rfl (k p e s m args below meth c H locs ls h0 C Z hL)
  | aconst_null =>
    have e : len = 1 := by simpa [xlen] using hl
    subst e
    cases hx
    intro p e s m args below meth c H locs ls h0 C Z hL
    exact lv_null C.1 C.2.1 hd (k p e s m args below meth c H locs ls h0 C Z hL)
  | ldc j =>
    have e : len = 2 := by simpa [xlen] using hl
    subst e
    simp only [xnx] at hx
    split at hx
    · rename_i v hv
      cases hx
      intro p e s m args below meth c H locs ls h0 C Z hL
      have hw : Cond.constant (xown (xoc M)) j v ∈ xT := by
        simp only [xlc] at hv
        split at hv
        · rename_i ho; cases hv; rw [ho]; exact xw_c0
        · rename_i ho; cases hv; rw [ho]; exact xw_c1
        · rename_i ho; cases hv; rw [ho]; exact xw_c2
        · cases hv
      exact lv_ldc C.1 C.2.1 C.2.2.2.2.1 (C.2.2.2.2.2.1 _ hw) hd (k p e s m args below meth c H locs ls h0 C Z hL)
    · split at hx
      · rename_i ho
        cases hx
        obtain ⟨o1, rfl⟩ := ho
        exact xs_ldcm hd o1 k
      · cases hx
  | iadd =>
    have e : len = 1 := by simpa [xlen] using hl
    subst e
    exact xs_i2 (fun a b c => lv_iadd a b hd c) hx k
  | isub =>
    have e : len = 1 := by simpa [xlen] using hl
    subst e
    exact xs_i2 (fun a b c => lv_isub a b hd c) hx k
  | imul =>
    have e : len = 1 := by simpa [xlen] using hl
    subst e
    exact xs_i2 (fun a b c => lv_imul a b hd c) hx k
  | iand =>
    have e : len = 1 := by simpa [xlen] using hl
    subst e
    exact xs_i2 (fun a b c => lv_iand a b hd c) hx k
  | ishr =>
    have e : len = 1 := by simpa [xlen] using hl
    subst e
    exact xs_i2 (fun a b c => lv_ishr a b hd c) hx k
  | idiv =>
    have e : len = 1 := by simpa [xlen] using hl
    subst e
    simp only [xnx] at hx
    split at hx
    · split at hx
      · cases hx
      · rename_i hy
        cases hx
        intro p e s m args below meth c H locs ls h0 C Z hL
        exact lv_idiv C.1 C.2.1 hd hy (k p e s m args below meth c H locs ls h0 C Z hL)
    · cases hx
  | irem =>
    have e : len = 1 := by simpa [xlen] using hl
    subst e
    simp only [xnx] at hx
    split at hx
    · split at hx
      · cases hx
      · rename_i hy
        cases hx
        intro p e s m args below meth c H locs ls h0 C Z hL
        exact lv_irem C.1 C.2.1 hd hy (k p e s m args below meth c H locs ls h0 C Z hL)
    · cases hx
  | ineg =>
    have e : len = 1 := by simpa [xlen] using hl
    subst e
    simp only [xnx] at hx
    split at hx
    · cases hx
      intro p e s m args below meth c H locs ls h0 C Z hL
      exact lv_ineg C.1 C.2.1 hd (k p e s m args below meth c H locs ls h0 C Z hL)
    · cases hx
  | i2l =>
    have e : len = 1 := by simpa [xlen] using hl
    subst e
    simp only [xnx] at hx
    split at hx
    · cases hx
      intro p e s m args below meth c H locs ls h0 C Z hL
      exact lv_i2l C.1 C.2.1 hd rfl (k p e s m args below meth c H locs ls h0 C Z hL)
    · cases hx
  | lcmp =>
    have e : len = 1 := by simpa [xlen] using hl
    subst e
    simp only [xnx] at hx
    split at hx
    · cases hx
      intro p e s m args below meth c H locs ls h0 C Z hL
      exact W.lcmp C.1 C.2.1 hd (k p e s m args below meth c H locs ls h0 C Z hL)
    · cases hx
  | dup =>
    have e : len = 1 := by simpa [xlen] using hl
    subst e
    simp only [xnx] at hx
    split at hx
    · split at hx
      · rename_i hv
        cases hx
        intro p e s m args below meth c H locs ls h0 C Z hL
        exact lv_dup C.1 C.2.1 hd hv (k p e s m args below meth c H locs ls h0 C Z hL)
      · cases hx
    · cases hx
  | pop =>
    have e : len = 1 := by simpa [xlen] using hl
    subst e
    simp only [xnx] at hx
    split at hx
    · split at hx
      · rename_i hv
        cases hx
        intro p e s m args below meth c H locs ls h0 C Z hL
        exact lv_pop C.1 C.2.1 hd hv (k p e s m args below meth c H locs ls h0 C Z hL)
      · cases hx
    · cases hx
  | dup_x1 =>
    have e : len = 1 := by simpa [xlen] using hl
    subst e
    simp only [xnx] at hx
    split at hx
    · split at hx
      · rename_i hv
        cases hx
        intro p e s m args below meth c H locs ls h0 C Z hL
        exact lv_dup_x1 C.1 C.2.1 hd hv.1 hv.2 (k p e s m args below meth c H locs ls h0 C Z hL)
      · cases hx
    · cases hx
  | dup2 =>
    have e : len = 1 := by simpa [xlen] using hl
    subst e
    simp only [xnx] at hx
    split at hx
    · split at hx
      · rename_i hv
        cases hx
        intro p e s m args below meth c H locs ls h0 C Z hL
        exact lv_dup2_11 C.1 C.2.1 hd hv.1 hv.2 (k p e s m args below meth c H locs ls h0 C Z hL)
      · cases hx
    · cases hx
  | ifCond c off =>
    have e : len = 3 := by simpa [xlen] using hl
    subst e
    simp only [xnx] at hx
    split at hx
    · cases c with
      | eq => exact xs_br (by simp [xcnd]) (fun a b c d f => lv_if_eq a b hd c d f) hx k
      | ne => exact xs_br (by simp [xcnd]) (fun a b c d f => lv_if_ne a b hd c d (fun z => f (fun y => y z))) hx k
      | lt => exact xs_br (by simp [xcnd]) (fun a b c d f => lv_if_lt a b hd c d f) hx k
      | ge => exact xs_br (by simp [xcnd]) (fun a b c d f => lv_if_ge a b hd c d f) hx k
      | gt => exact xs_br (by simp [xcnd]) (fun a b c d f => lv_if_gt a b hd c d f) hx k
      | le => exact xs_br (by simp [xcnd]) (fun a b c d f => lv_if_le a b hd c d f) hx k
    · cases hx
  | if_icmp c off =>
    have e : len = 3 := by simpa [xlen] using hl
    subst e
    simp only [xnx] at hx
    split at hx
    · cases c with
      | eq => exact xs_br (by simp [xcmp]) (fun a b c d f => lv_icmp_eq a b hd c d f) hx k
      | ne => exact xs_br (by simp [xcmp]) (fun a b c d f => lv_icmp_ne a b hd c d (fun z => f (fun y => y z))) hx k
      | lt => exact xs_br (by simp [xcmp]) (fun a b c d f => lv_icmp_lt a b hd c d f) hx k
      | ge => exact xs_br (by simp [xcmp]) (fun a b c d f => lv_icmp_ge a b hd c d f) hx k
      | gt => exact xs_br (by simp [xcmp]) (fun a b c d f => lv_icmp_gt a b hd c d f) hx k
      | le => exact xs_br (by simp [xcmp]) (fun a b c d f => lv_icmp_le a b hd c d f) hx k
    · cases hx
  | if_acmp c off =>
    have e : len = 3 := by simpa [xlen] using hl
    subst e
    simp only [xnx] at hx
    split at hx
    · split at hx
      · rename_i v w r hv
        obtain ⟨rv, rfl⟩ := xrd_in hv.1
        obtain ⟨rw', rfl⟩ := xrd_in hv.2
        cases c with
        | eq => exact xs_br (cP := rw' = rv) (by rw [decide_eq_true_eq]; exact xrf_inj) (fun a b c d f => lv_acmp_eq a b hd c d f) hx k
        | ne => exact xs_br (cP := ¬ rw' = rv) (by rw [decide_eq_true_eq]; exact not_congr xrf_inj) (fun a b c d f => lv_acmp_ne a b hd c d (fun z => f (fun y => y z))) hx k
      · cases hx
    · cases hx
  | goto off =>
    have e : len = 3 := by simpa [xlen] using hl
    subst e
    simp only [xnx] at hx
    split at hx
    · rename_i t ht
      cases hx
      intro p e s m args below meth c H locs ls h0 C Z hL
      exact lv_goto C.1 C.2.1 hd (xj_in ht) (k p e s m args below meth c H locs ls h0 C Z hL)
    · cases hx
  | ifnull off =>
    have e : len = 3 := by simpa [xlen] using hl
    subst e
    simp only [xnx] at hx
    split at hx
    · obtain ⟨t, ht, rfl⟩ := xbr_in hx
      intro p e s m args below meth c H locs ls h0 C Z hL
      exact lv_ifnullN C.1 C.2.1 hd ht (k p e s m args below meth c H locs ls h0 C Z hL)
    · obtain ⟨t, ht, rfl⟩ := xbr_in hx
      intro p e s m args below meth c H locs ls h0 C Z hL
      exact lv_ifnull C.1 C.2.1 hd (k p e s m args below meth c H locs ls h0 C Z hL)
    · cases hx
  | ifnonnull off =>
    have e : len = 3 := by simpa [xlen] using hl
    subst e
    simp only [xnx] at hx
    split at hx
    · obtain ⟨t, ht, rfl⟩ := xbr_in hx
      intro p e s m args below meth c H locs ls h0 C Z hL
      exact lv_ifnonnullN C.1 C.2.1 hd (k p e s m args below meth c H locs ls h0 C Z hL)
    · obtain ⟨t, ht, rfl⟩ := xbr_in hx
      intro p e s m args below meth c H locs ls h0 C Z hL
      exact lv_ifnonnull C.1 C.2.1 hd ht (k p e s m args below meth c H locs ls h0 C Z hL)
    · cases hx
  | tableswitch d lo hi offs =>
    simp only [xnx] at hx
    split at hx
    · split at hx
      · rename_i hb
        split at hx
        · rename_i t ht
          cases hx
          intro p e s m args below meth c H locs ls h0 C Z hL
          exact lv_tableOut C.1 C.2.1 hd hb (xj_in ht) (k p e s m args below meth c H locs ls h0 C Z hL)
        · cases hx
      · rename_i hb
        split at hx
        · rename_i off ho
          split at hx
          · rename_i t ht
            cases hx
            intro p e s m args below meth c H locs ls h0 C Z hL
            exact lv_tableIn C.1 C.2.1 hd (fun z => hb (Or.inl z)) (fun z => hb (Or.inr z)) ho (xj_in ht) (k p e s m args below meth c H locs ls h0 C Z hL)
          · cases hx
        · cases hx
    · cases hx
  | getfield j =>
    have e : len = 3 := by simpa [xlen] using hl
    subst e
    simp only [xnx] at hx
    split at hx
    · rename_i a r q0 hf
      split at hx
      · rename_i ho
        cases hx
        exact xs_getf hd hf ho k
      · cases hx
    · cases hx
  | putfield j =>
    have e : len = 3 := by simpa [xlen] using hl
    subst e
    simp only [xnx] at hx
    split at hx
    · rename_i a r q0 hf
      split at hx
      · rename_i ho
        cases hx
        exact xs_putf hd hf ho.1 ho.2.1 ho.2.2.1 ho.2.2.2 k
      · cases hx
    · cases hx
  | getstatic j =>
    have e : len = 3 := by simpa [xlen] using hl
    subst e
    simp only [xnx] at hx
    split at hx
    · rename_i ho
      cases hx
      obtain ⟨o1, rfl⟩ := ho
      exact xs_gets hd o1 k
    · cases hx
  | iaload =>
    have e : len = 1 := by simpa [xlen] using hl
    subst e
    simp only [xnx] at hx
    split at hx
    · rename_i q0 hq
      cases hx
      exact xs_ald (i := .iaload) hq (by decide) (fun a b c d f g w z => W.iald a b c d f g w rfl rfl hd z) k
    · exact xs_sld hd hx k
  | baload =>
    have e : len = 1 := by simpa [xlen] using hl
    subst e
    exact xs_ald (i := .baload) hx (by decide) (fun a b c d f g w z => W.zald a b c d f g w rfl rfl hd z) k
  | aaload =>
    have e : len = 1 := by simpa [xlen] using hl
    subst e
    exact xs_ald (i := .aaload) hx (by decide) (fun a b c d f g w z => W.aald a b c d rfl f g w rfl rfl hd z) k
  | laload =>
    have e : len = 1 := by simpa [xlen] using hl
    subst e
    exact xs_ald (i := .laload) hx (by decide) (fun a b c d f g w z => W.lald a b c d f g w rfl rfl hd z) k
  | iastore =>
    have e : len = 1 := by simpa [xlen] using hl
    subst e
    simp only [xnx] at hx
    split at hx
    · exact xs_ast hx (by decide) (fun a b c d f g w => W.iast a b c d f g rfl rfl hd w) k
    · cases hx
  | bastore =>
    have e : len = 1 := by simpa [xlen] using hl
    subst e
    simp only [xnx] at hx
    split at hx
    · split at hx
      · rename_i x r hv
        have hn : narrow .boolean (.int x) = .int x := by rcases hv with rfl | rfl <;> decide +kernel
        exact xs_ast hx (by decide) (fun a b c d f g w => W.zast a b c d f g rfl rfl hd (by rw [hn]; exact w)) k
      · cases hx
    · cases hx
  | lastore =>
    have e : len = 1 := by simpa [xlen] using hl
    subst e
    simp only [xnx] at hx
    split at hx
    · exact xs_ast hx (by decide) (fun a b c d f g w => W.last a b c d f g rfl rfl hd w) k
    · cases hx
  | aastore =>
    have e : len = 1 := by simpa [xlen] using hl
    subst e
    simp only [xnx] at hx
    split at hx
    · split at hx
      · rename_i v r hv
        cases v with
        | ref y => exact xs_aast hd hv hx k
        | null => exact xs_ast hx (by decide) (fun a b c d f g w => va_WaastN a b c d f g rfl rfl hd w) k
        | _ => cases hv
      · cases hx
    · cases hx
  | arraylength =>
    have e : len = 1 := by simpa [xlen] using hl
    subst e
    simp only [xnx] at hx
    split at hx
    · split at hx
      · rename_i q0 hq
        obtain ⟨t, n, f⟩ := q0
        cases hx
        exact xs_alen hd hq k
      · cases hx
    · cases hx
  | newarray t =>
    have e : len = 2 := by simpa [xlen] using hl
    subst e
    simp only [xnx] at hx
    cases t with
    | int => exact xs_newa (t := 0) hd (show 0 < 4 by omega) rfl xw_aint (by decide) rfl hx k
    | boolean => exact xs_newa (t := 1) hd (show 1 < 4 by omega) rfl xw_aboolean (by decide) rfl hx k
    | long => exact xs_newa (t := 3) hd (show 3 < 4 by omega) rfl xw_along (by decide) rfl hx k
    | _ => cases hx
  | anewarray j =>
    have e : len = 3 := by simpa [xlen] using hl
    subst e
    simp only [xnx] at hx
    split at hx
    · rename_i ho
      refine xs_anew hd ?_ hx k
      rcases ho with ⟨o1, rfl⟩ | ⟨o1, rfl⟩
      · rw [o1]; exact xw_an0
      · rw [o1]; exact xw_an1
    · cases hx
  | new j =>
    have e : len = 3 := by simpa [xlen] using hl
    subst e
    simp only [xnx] at hx
    split at hx
    · rename_i cn hc
      split at hx
      · rename_i hr
        cases hx
        exact xs_new hd hc hr k
      · cases hx
    · cases hx
  | checkcast j =>
    have e : len = 3 := by simpa [xlen] using hl
    subst e
    simp only [xnx] at hx
    split at hx
    · cases hx
      intro p e s m args below meth c H locs ls h0 C Z hL
      exact lv_castN C.1 C.2.1 hd (k p e s m args below meth c H locs ls h0 C Z hL)
    · split at hx
      · rename_i cn hc
        split at hx
        · rename_i ho
          cases hx
          exact xs_cast hd hc ho k
        · cases hx
      · cases hx
    · cases hx
  | invokespecial j =>
    have e : len = 3 := by simpa [xlen] using hl
    subst e
    simp only [xnx] at hx
    split at hx
    · rename_i hn
      split at hx
      · split at hx
        · rename_i hr
          cases hx
          intro p e s m args below meth c H locs ls h0 C Z hL
          have hb := C.2.2.2.2.2.2.2.2.2.2.2
          exact xs_oi hd hn (by omega) (by omega) hr k p e s m args below meth c H locs ls h0 C Z hL
        · cases hx
      · cases hx
    · cases hx
  | invokestatic j =>
    have e : len = 3 := by simpa [xlen] using hl
    subst e
    simp only [xnx] at hx
    split at hx
    · rename_i hn
      split at hx
      · split at hx
        · rename_i hr
          cases hx
          intro p e s m args below meth c H locs ls h0 C Z hL
          have hb := C.2.2.2.2.2.2.2.2.2.2.2
          obtain ⟨r1, r2, r3, r4, r5, r6, r7, r8, r9, r10⟩ := hr
          exact xs_ac hd hn (by omega) (by omega) r1 r2 r3 r4 r5 r6 r7 r8 r9 r10 k p e s m args below meth c H locs ls h0 C Z hL
        · cases hx
      · cases hx
    · cases hx
  | invokevirtual j =>
    have e : len = 3 := by simpa [xlen] using hl
    subst e
    simp only [xnx] at hx
    split at hx
    · rename_i hn
      have ho : xoc M = 15 ∧ j = 86 := by
        simp only [xnt] at hn
        split at hn
        · rename_i hq; simpa using hq
        · cases hn
      obtain ⟨o1, rfl⟩ := ho
      split at hx
      · split at hx
        · rename_i hr
          cases hx
          intro p e s m args below meth c H locs ls h0 C Z hL
          have hb := C.2.2.2.2.2.2.2.2.2.2.2
          exact xs_gc hd o1 hr.1 (by omega) (by omega) hr.2 k p e s m args below meth c H locs ls h0 C Z hL
        · cases hx
      · cases hx
    · cases hx
  | _ => cases hx
end XN
