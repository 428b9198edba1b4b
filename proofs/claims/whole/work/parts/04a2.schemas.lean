/-! ===== the same rules, an instruction each: what a place of the code needs is little ===== -/
section XW
variable {g : Nat × Nat × Nat} {M pc : Nat} {cc : ByteArray} {L : List (Option Value)} {st : List Value} {h : xH} {out : xR}
theorem s_aload_n {k : Fin 4} {n : Nat} {v : Value} (hk : xcode M = cc) (hd : decode cc pc = .ok (.aload_n k, 1)) (ht : xth M pc = none) (hn : k.val = n) (hL : L[n]? = some (some v)) (hv : xrd v = true) : Ev g M pc L st h out = Ev g M (pc + 1) L (v :: st) h out := by
  subst hk hn; exact ev_ldv (b := xrd) hd rfl ht rfl rfl rfl hL hv
theorem s_aload {n : Nat} {v : Value} (hk : xcode M = cc) (hd : decode cc pc = .ok (.aload n, 2)) (ht : xth M pc = none) (hL : L[n]? = some (some v)) (hv : xrd v = true) : Ev g M pc L st h out = Ev g M (pc + 2) L (v :: st) h out := by
  subst hk; exact ev_ldv (b := xrd) hd rfl ht rfl rfl rfl hL hv
theorem s_iload_n {k : Fin 4} {n : Nat} {v : Value} (hk : xcode M = cc) (hd : decode cc pc = .ok (.iload_n k, 1)) (ht : xth M pc = none) (hn : k.val = n) (hL : L[n]? = some (some v)) (hv : xid v = true) : Ev g M pc L st h out = Ev g M (pc + 1) L (v :: st) h out := by
  subst hk hn; exact ev_ldv (b := xid) hd rfl ht rfl rfl rfl hL hv
theorem s_iload {n : Nat} {v : Value} (hk : xcode M = cc) (hd : decode cc pc = .ok (.iload n, 2)) (ht : xth M pc = none) (hL : L[n]? = some (some v)) (hv : xid v = true) : Ev g M pc L st h out = Ev g M (pc + 2) L (v :: st) h out := by
  subst hk; exact ev_ldv (b := xid) hd rfl ht rfl rfl rfl hL hv
theorem s_astore_n {k : Fin 4} {n : Nat} {v : Value} {L' : List (Option Value)} (hk : xcode M = cc) (hd : decode cc pc = .ok (.astore_n k, 1)) (ht : xth M pc = none) (hn : k.val = n) (hlt : n < L.length) (hL : L.set n (some v) = L') (hv : xrd v = true) : Ev g M pc L (v :: st) h out = Ev g M (pc + 1) L' st h out := by
  subst hk hn; exact ev_stv (b := xrd) hd rfl ht rfl rfl rfl hlt hL hv
theorem s_astore {n : Nat} {v : Value} {L' : List (Option Value)} (hk : xcode M = cc) (hd : decode cc pc = .ok (.astore n, 2)) (ht : xth M pc = none) (hlt : n < L.length) (hL : L.set n (some v) = L') (hv : xrd v = true) : Ev g M pc L (v :: st) h out = Ev g M (pc + 2) L' st h out := by
  subst hk; exact ev_stv (b := xrd) hd rfl ht rfl rfl rfl hlt hL hv
theorem s_istore_n {k : Fin 4} {n : Nat} {v : Value} {L' : List (Option Value)} (hk : xcode M = cc) (hd : decode cc pc = .ok (.istore_n k, 1)) (ht : xth M pc = none) (hn : k.val = n) (hlt : n < L.length) (hL : L.set n (some v) = L') (hv : xid v = true) : Ev g M pc L (v :: st) h out = Ev g M (pc + 1) L' st h out := by
  subst hk hn; exact ev_stv (b := xid) hd rfl ht rfl rfl rfl hlt hL hv
theorem s_istore {n : Nat} {v : Value} {L' : List (Option Value)} (hk : xcode M = cc) (hd : decode cc pc = .ok (.istore n, 2)) (ht : xth M pc = none) (hlt : n < L.length) (hL : L.set n (some v) = L') (hv : xid v = true) : Ev g M pc L (v :: st) h out = Ev g M (pc + 2) L' st h out := by
  subst hk; exact ev_stv (b := xid) hd rfl ht rfl rfl rfl hlt hL hv
theorem s_iinc {n : Nat} {k : Int} {x y : Int32} {L' : List (Option Value)} (hk : xcode M = cc) (hd : decode cc pc = .ok (.iinc n k, 3)) (ht : xth M pc = none) (hL : L[n]? = some (some (.int x))) (hy : Int32.ofInt k = y) (hS : L.set n (some (.int (x + y))) = L') : Ev g M pc L st h out = Ev g M (pc + 3) L' st h out := by
  subst hk hy; exact ev_nx (q := (pc + 3, L', st, h)) hd rfl ht rfl rfl (by simp [xnx, hL, hS])
theorem s_iconst {k : Int} {x : Int32} (hk : xcode M = cc) (hd : decode cc pc = .ok (.iconst k, 1)) (ht : xth M pc = none) (hx : Int32.ofInt k = x) : Ev g M pc L st h out = Ev g M (pc + 1) L (.int x :: st) h out := by
  subst hk hx; exact ev_nx hd rfl ht rfl rfl rfl
theorem s_bipush {k : Int} {x : Int32} (hk : xcode M = cc) (hd : decode cc pc = .ok (.bipush k, 2)) (ht : xth M pc = none) (hx : (Int8.ofInt k).toInt32 = x) : Ev g M pc L st h out = Ev g M (pc + 2) L (.int x :: st) h out := by
  subst hk hx; exact ev_nx hd rfl ht rfl rfl rfl
theorem s_sipush {k : Int} {x : Int32} (hk : xcode M = cc) (hd : decode cc pc = .ok (.sipush k, 3)) (ht : xth M pc = none) (hx : (Int16.ofInt k).toInt32 = x) : Ev g M pc L st h out = Ev g M (pc + 3) L (.int x :: st) h out := by
  subst hk hx; exact ev_nx hd rfl ht rfl rfl rfl
theorem s_lconst {k : Fin 2} {x : Int64} (hk : xcode M = cc) (hd : decode cc pc = .ok (.lconst k, 1)) (ht : xth M pc = none) (hx : Int64.ofNat k.val = x) : Ev g M pc L st h out = Ev g M (pc + 1) L (.long x :: st) h out := by
  subst hk hx; exact ev_nx hd rfl ht rfl rfl rfl
theorem s_null (hk : xcode M = cc) (hd : decode cc pc = .ok (.aconst_null, 1)) (ht : xth M pc = none) : Ev g M pc L st h out = Ev g M (pc + 1) L (.null :: st) h out := by
  subst hk; exact ev_nx hd rfl ht rfl rfl rfl
theorem s_ldc {k o : Nat} {x : Int32} (hk : xcode M = cc) (hd : decode cc pc = .ok (.ldc k, 2)) (ht : xth M pc = none) (ho : xoc M = o) (hx : xlc o k = some x) : Ev g M pc L st h out = Ev g M (pc + 2) L (.int x :: st) h out := by
  subst hk ho; exact ev_nx (q := (pc + 2, L, .int x :: st, h)) hd rfl ht rfl rfl (by simp [xnx, hx])
theorem s_ldcm (hk : xcode M = cc) (hd : decode cc pc = .ok (.ldc 110, 2)) (ht : xth M pc = none) (ho : xoc M = 15) : Ev g M pc L st h out = Ev g M (pc + 2) L (.ref g.2.2 :: st) h out := by
  subst hk; exact ev_nx (q := (pc + 2, L, .ref g.2.2 :: st, h)) hd rfl ht rfl rfl (by simp [xnx, ho, xlc])
theorem s_iadd {x y : Int32} (hk : xcode M = cc) (hd : decode cc pc = .ok (.iadd, 1)) (ht : xth M pc = none) : Ev g M pc L (.int y :: .int x :: st) h out = Ev g M (pc + 1) L (.int (x + y) :: st) h out := by
  subst hk; exact ev_nx (q := (pc + 1, L, .int (x + y) :: st, h)) hd rfl ht rfl rfl rfl
theorem s_isub {x y : Int32} (hk : xcode M = cc) (hd : decode cc pc = .ok (.isub, 1)) (ht : xth M pc = none) : Ev g M pc L (.int y :: .int x :: st) h out = Ev g M (pc + 1) L (.int (x - y) :: st) h out := by
  subst hk; exact ev_nx (q := (pc + 1, L, .int (x - y) :: st, h)) hd rfl ht rfl rfl rfl
theorem s_imul {x y : Int32} (hk : xcode M = cc) (hd : decode cc pc = .ok (.imul, 1)) (ht : xth M pc = none) : Ev g M pc L (.int y :: .int x :: st) h out = Ev g M (pc + 1) L (.int (x * y) :: st) h out := by
  subst hk; exact ev_nx (q := (pc + 1, L, .int (x * y) :: st, h)) hd rfl ht rfl rfl rfl
theorem s_iand {x y : Int32} (hk : xcode M = cc) (hd : decode cc pc = .ok (.iand, 1)) (ht : xth M pc = none) : Ev g M pc L (.int y :: .int x :: st) h out = Ev g M (pc + 1) L (.int (x &&& y) :: st) h out := by
  subst hk; exact ev_nx (q := (pc + 1, L, .int (x &&& y) :: st, h)) hd rfl ht rfl rfl rfl
theorem s_ishr {x y : Int32} (hk : xcode M = cc) (hd : decode cc pc = .ok (.ishr, 1)) (ht : xth M pc = none) : Ev g M pc L (.int y :: .int x :: st) h out = Ev g M (pc + 1) L (.int (x >>> (y &&& 31)) :: st) h out := by
  subst hk; exact ev_nx (q := (pc + 1, L, .int (x >>> (y &&& 31)) :: st, h)) hd rfl ht rfl rfl rfl
theorem s_idiv {x y : Int32} (hk : xcode M = cc) (hd : decode cc pc = .ok (.idiv, 1)) (ht : xth M pc = none) (hy : ¬ y = 0) : Ev g M pc L (.int y :: .int x :: st) h out = Ev g M (pc + 1) L (.int (x / y) :: st) h out := by
  subst hk; exact ev_nx (q := (pc + 1, L, .int (x / y) :: st, h)) hd rfl ht rfl rfl (by simp [xnx, hy])
theorem s_irem {x y : Int32} (hk : xcode M = cc) (hd : decode cc pc = .ok (.irem, 1)) (ht : xth M pc = none) (hy : ¬ y = 0) : Ev g M pc L (.int y :: .int x :: st) h out = Ev g M (pc + 1) L (.int (x - x / y * y) :: st) h out := by
  subst hk; exact ev_nx (q := (pc + 1, L, .int (x - x / y * y) :: st, h)) hd rfl ht rfl rfl (by simp [xnx, hy])
theorem s_ineg {x : Int32} (hk : xcode M = cc) (hd : decode cc pc = .ok (.ineg, 1)) (ht : xth M pc = none) : Ev g M pc L (.int x :: st) h out = Ev g M (pc + 1) L (.int (-x) :: st) h out := by
  subst hk; exact ev_nx (q := (pc + 1, L, .int (-x) :: st, h)) hd rfl ht rfl rfl rfl
theorem s_i2l {x : Int32} (hk : xcode M = cc) (hd : decode cc pc = .ok (.i2l, 1)) (ht : xth M pc = none) : Ev g M pc L (.int x :: st) h out = Ev g M (pc + 1) L (.long x.toInt64 :: st) h out := by
  subst hk; exact ev_nx (q := (pc + 1, L, .long x.toInt64 :: st, h)) hd rfl ht rfl rfl rfl
theorem s_lcmp {x y : Int64} (hk : xcode M = cc) (hd : decode cc pc = .ok (.lcmp, 1)) (ht : xth M pc = none) : Ev g M pc L (.long y :: .long x :: st) h out = Ev g M (pc + 1) L (.int (lg_cmp x y) :: st) h out := by
  subst hk; exact ev_nx (q := (pc + 1, L, .int (lg_cmp x y) :: st, h)) hd rfl ht rfl rfl rfl
theorem s_dup {v : Value} (hk : xcode M = cc) (hd : decode cc pc = .ok (.dup, 1)) (ht : xth M pc = none) (hv : v.category = 1) : Ev g M pc L (v :: st) h out = Ev g M (pc + 1) L (v :: v :: st) h out := by
  subst hk; exact ev_nx (q := (pc + 1, L, v :: v :: st, h)) hd rfl ht rfl rfl (by simp [xnx, hv])
theorem s_pop {v : Value} (hk : xcode M = cc) (hd : decode cc pc = .ok (.pop, 1)) (ht : xth M pc = none) (hv : v.category = 1) : Ev g M pc L (v :: st) h out = Ev g M (pc + 1) L st h out := by
  subst hk; exact ev_nx (q := (pc + 1, L, st, h)) hd rfl ht rfl rfl (by simp [xnx, hv])
theorem s_dup_x1 {v w : Value} (hk : xcode M = cc) (hd : decode cc pc = .ok (.dup_x1, 1)) (ht : xth M pc = none) (hv : v.category = 1) (hw : w.category = 1) : Ev g M pc L (v :: w :: st) h out = Ev g M (pc + 1) L (v :: w :: v :: st) h out := by
  subst hk; exact ev_nx (q := (pc + 1, L, v :: w :: v :: st, h)) hd rfl ht rfl rfl (by simp [xnx, hv, hw])
theorem s_dup2 {v w : Value} (hk : xcode M = cc) (hd : decode cc pc = .ok (.dup2, 1)) (ht : xth M pc = none) (hv : v.category = 1) (hw : w.category = 1) : Ev g M pc L (v :: w :: st) h out = Ev g M (pc + 1) L (v :: w :: v :: w :: st) h out := by
  subst hk; exact ev_nx (q := (pc + 1, L, v :: w :: v :: w :: st, h)) hd rfl ht rfl rfl (by simp [xnx, hv, hw])
theorem s_if {cd : Jvm.ClassFile.Cond} {off : Int} {t n : Nat} {x : Int32} {c : Prop} [Decidable c] (hk : xcode M = cc) (hd : decode cc pc = .ok (.ifCond cd off, 3)) (ht : xth M pc = none) (hj : xj pc off = some t) (hn : pc + 3 = n) (hb : xcnd cd x = true ↔ c) : Ev g M pc L (.int x :: st) h out = if c then Ev g M t L st h out else Ev g M n L st h out := by
  subst hk hn; exact ev_br (b := xcnd cd x) hd rfl ht rfl rfl (by simp only [xnx, xbr, hj]) hb
theorem s_ic {cd : Jvm.ClassFile.Cond} {off : Int} {t n : Nat} {x y : Int32} {c : Prop} [Decidable c] (hk : xcode M = cc) (hd : decode cc pc = .ok (.if_icmp cd off, 3)) (ht : xth M pc = none) (hj : xj pc off = some t) (hn : pc + 3 = n) (hb : xcmp cd x y = true ↔ c) : Ev g M pc L (.int y :: .int x :: st) h out = if c then Ev g M t L st h out else Ev g M n L st h out := by
  subst hk hn; exact ev_br (b := xcmp cd x y) hd rfl ht rfl rfl (by simp only [xnx, xbr, hj]) hb
theorem s_aceq {off : Int} {t n : Nat} {v w : Value} (hk : xcode M = cc) (hd : decode cc pc = .ok (.if_acmp .eq off, 3)) (ht : xth M pc = none) (hj : xj pc off = some t) (hn : pc + 3 = n) (hv : xrd v = true) (hw : xrd w = true) : Ev g M pc L (v :: w :: st) h out = if w = v then Ev g M t L st h out else Ev g M n L st h out := by
  subst hk hn; exact ev_br (b := decide (w = v)) hd rfl ht rfl rfl (by simp only [xnx, xbr, hj, hv, hw, and_self, if_true]) decide_eq_true_iff
theorem s_acne {off : Int} {t n : Nat} {v w : Value} (hk : xcode M = cc) (hd : decode cc pc = .ok (.if_acmp .ne off, 3)) (ht : xth M pc = none) (hj : xj pc off = some t) (hn : pc + 3 = n) (hv : xrd v = true) (hw : xrd w = true) : Ev g M pc L (v :: w :: st) h out = if ¬ w = v then Ev g M t L st h out else Ev g M n L st h out := by
  subst hk hn; exact ev_br (b := decide (¬ w = v)) hd rfl ht rfl rfl (by simp only [xnx, xbr, hj, hv, hw, and_self, if_true]) decide_eq_true_iff
theorem s_goto {off : Int} {t : Nat} (hk : xcode M = cc) (hd : decode cc pc = .ok (.goto off, 3)) (ht : xth M pc = none) (hj : xj pc off = some t) : Ev g M pc L st h out = Ev g M t L st h out := by
  subst hk; exact ev_nx (q := (t, L, st, h)) hd rfl ht rfl rfl (by simp only [xnx, hj])
theorem s_ifnullN {off : Int} {t : Nat} (hk : xcode M = cc) (hd : decode cc pc = .ok (.ifnull off, 3)) (ht : xth M pc = none) (hj : xj pc off = some t) : Ev g M pc L (.null :: st) h out = Ev g M t L st h out := by
  subst hk; exact ev_nx (q := (t, L, st, h)) hd rfl ht rfl rfl (by simp [xnx, xbr, hj])
theorem s_ifnull {off : Int} {t q : Nat} (hk : xcode M = cc) (hd : decode cc pc = .ok (.ifnull off, 3)) (ht : xth M pc = none) (hj : xj pc off = some t) : Ev g M pc L (.ref q :: st) h out = Ev g M (pc + 3) L st h out := by
  subst hk; exact ev_nx (q := (pc + 3, L, st, h)) hd rfl ht rfl rfl (by simp [xnx, xbr, hj])
theorem s_ifnonnullN {off : Int} {t : Nat} (hk : xcode M = cc) (hd : decode cc pc = .ok (.ifnonnull off, 3)) (ht : xth M pc = none) (hj : xj pc off = some t) : Ev g M pc L (.null :: st) h out = Ev g M (pc + 3) L st h out := by
  subst hk; exact ev_nx (q := (pc + 3, L, st, h)) hd rfl ht rfl rfl (by simp [xnx, xbr, hj])
theorem s_ifnonnull {off : Int} {t q : Nat} (hk : xcode M = cc) (hd : decode cc pc = .ok (.ifnonnull off, 3)) (ht : xth M pc = none) (hj : xj pc off = some t) : Ev g M pc L (.ref q :: st) h out = Ev g M t L st h out := by
  subst hk; exact ev_nx (q := (t, L, st, h)) hd rfl ht rfl rfl (by simp [xnx, xbr, hj])
theorem s_tin {df lo hi : Int} {offs : Array Int} {len t : Nat} {x : Int32} {off : Int} (hk : xcode M = cc) (hd : decode cc pc = .ok (.tableswitch df lo hi offs, len)) (ht : xth M pc = none) (hb : ¬ (x.toInt < lo ∨ hi < x.toInt)) (ho : offs[(x.toInt - lo).toNat]? = some off) (hj : xj pc off = some t) : Ev g M pc L (.int x :: st) h out = Ev g M t L st h out := by
  subst hk; exact ev_nx (q := (t, L, st, h)) hd rfl ht rfl rfl (by simp only [xnx]; rw [if_neg hb]; simp only [ho, hj])
theorem s_tout {df lo hi : Int} {offs : Array Int} {len t : Nat} {x : Int32} (hk : xcode M = cc) (hd : decode cc pc = .ok (.tableswitch df lo hi offs, len)) (ht : xth M pc = none) (hj : xj pc df = some t) (hb : x.toInt < lo ∨ hi < x.toInt) : Ev g M pc L (.int x :: st) h out = Ev g M t L st h out := by
  subst hk; exact ev_nx (q := (t, L, st, h)) hd rfl ht rfl rfl (by simp only [xnx]; rw [if_pos hb]; simp only [hj])
theorem s_get {k o c j a : Nat} (hk : xcode M = cc) (hd : decode cc pc = .ok (.getfield k, 3)) (ht : xth M pc = none) (hoc : xoc M = o) (hf : xfl o k = some (c, j)) (ho : xO h a c = true) : Ev g M pc L (.ref a :: st) h out = Ev g M (pc + 3) L (xg h a j :: st) h out := by
  subst hk hoc; exact ev_get hd ht hf ho
theorem s_put {k o c j a t : Nat} {v : Value} (hk : xcode M = cc) (hd : decode cc pc = .ok (.putfield k, 3)) (ht : xth M pc = none) (hoc : xoc M = o) (hf : xfl o k = some (c, j)) (htt : xft c j = t) (hw : xwr M c j = true) (ho : xO h a c = true) (hv : xfit t v = true) (hb : g.1 ≤ a) : Ev g M pc L (v :: .ref a :: st) h out = Ev g M (pc + 3) L st (xpf h a j v) out := by
  subst hk hoc; exact ev_put hd ht hf htt hw ho hv hb
theorem s_gets (hk : xcode M = cc) (hd : decode cc pc = .ok (.getstatic 39, 3)) (ht : xth M pc = none) (hoc : xoc M = 0) : Ev g M pc L st h out = Ev g M (pc + 3) L (.ref g.2.1 :: st) h out := by
  subst hk; exact ev_nx (q := (pc + 3, L, .ref g.2.1 :: st, h)) hd rfl ht rfl rfl (by simp [xnx, hoc])
theorem s_iald {j : Int32} {a : Nat} (hk : xcode M = cc) (hd : decode cc pc = .ok (.iaload, 1)) (ht : xth M pc = none) (hA : xA h a 0 = true) (hin : ¬ (j < 0 ∨ xl h a ≤ j.toNatClampNeg)) : Ev g M pc L (.int j :: .ref a :: st) h out = Ev g M (pc + 1) L (xe h a j.toNatClampNeg :: st) h out := by
  subst hk; exact ev_ald (t := 0) hd rfl ht rfl rfl (xiald hA hin) hA hin
theorem s_iald4 {j : Int32} {a : Nat} (hk : xcode M = cc) (hd : decode cc pc = .ok (.iaload, 1)) (ht : xth M pc = none) (hA : xA h a 4 = true) (hin : ¬ (j < 0 ∨ xl h a ≤ j.toNatClampNeg)) : Ev g M pc L (.int j :: .ref a :: st) h out = Ev g M (pc + 1) L (xe h a j.toNatClampNeg :: st) h out := by
  subst hk; exact ev_ald (t := 4) hd rfl ht rfl rfl (xiald4 hA) hA hin
theorem s_bald {j : Int32} {a : Nat} (hk : xcode M = cc) (hd : decode cc pc = .ok (.baload, 1)) (ht : xth M pc = none) (hA : xA h a 1 = true) (hin : ¬ (j < 0 ∨ xl h a ≤ j.toNatClampNeg)) : Ev g M pc L (.int j :: .ref a :: st) h out = Ev g M (pc + 1) L (xe h a j.toNatClampNeg :: st) h out := by
  subst hk; exact ev_ald (t := 1) hd rfl ht rfl rfl rfl hA hin
theorem s_aald {j : Int32} {a : Nat} (hk : xcode M = cc) (hd : decode cc pc = .ok (.aaload, 1)) (ht : xth M pc = none) (hA : xA h a 2 = true) (hin : ¬ (j < 0 ∨ xl h a ≤ j.toNatClampNeg)) : Ev g M pc L (.int j :: .ref a :: st) h out = Ev g M (pc + 1) L (xe h a j.toNatClampNeg :: st) h out := by
  subst hk; exact ev_ald (t := 2) hd rfl ht rfl rfl rfl hA hin
theorem s_lald {j : Int32} {a : Nat} (hk : xcode M = cc) (hd : decode cc pc = .ok (.laload, 1)) (ht : xth M pc = none) (hA : xA h a 3 = true) (hin : ¬ (j < 0 ∨ xl h a ≤ j.toNatClampNeg)) : Ev g M pc L (.int j :: .ref a :: st) h out = Ev g M (pc + 1) L (xe h a j.toNatClampNeg :: st) h out := by
  subst hk; exact ev_ald (t := 3) hd rfl ht rfl rfl rfl hA hin
theorem s_iast {x j : Int32} {a : Nat} (hk : xcode M = cc) (hd : decode cc pc = .ok (.iastore, 1)) (ht : xth M pc = none) (hA : xA h a 0 = true) (hin : ¬ (j < 0 ∨ xl h a ≤ j.toNatClampNeg)) (hb : g.1 ≤ a) : Ev g M pc L (.int x :: .int j :: .ref a :: st) h out = Ev g M (pc + 1) L st (xpe h a j.toNatClampNeg (.int x)) out := by
  subst hk; exact ev_ast (t := 0) hd rfl ht rfl rfl rfl hA hin hb
theorem s_bast {x j : Int32} {a : Nat} (hk : xcode M = cc) (hd : decode cc pc = .ok (.bastore, 1)) (ht : xth M pc = none) (hv : x = 0 ∨ x = 1) (hA : xA h a 1 = true) (hin : ¬ (j < 0 ∨ xl h a ≤ j.toNatClampNeg)) (hb : g.1 ≤ a) : Ev g M pc L (.int x :: .int j :: .ref a :: st) h out = Ev g M (pc + 1) L st (xpe h a j.toNatClampNeg (.int x)) out := by
  subst hk; exact ev_ast (t := 1) hd rfl ht rfl rfl (by simp only [xnx]; rw [if_pos hv]) hA hin hb
theorem s_last {x : Int64} {j : Int32} {a : Nat} (hk : xcode M = cc) (hd : decode cc pc = .ok (.lastore, 1)) (ht : xth M pc = none) (hA : xA h a 3 = true) (hin : ¬ (j < 0 ∨ xl h a ≤ j.toNatClampNeg)) (hb : g.1 ≤ a) : Ev g M pc L (.long x :: .int j :: .ref a :: st) h out = Ev g M (pc + 1) L st (xpe h a j.toNatClampNeg (.long x)) out := by
  subst hk; exact ev_ast (t := 3) hd rfl ht rfl rfl rfl hA hin hb
theorem s_aast {v : Value} {j : Int32} {a : Nat} (hk : xcode M = cc) (hd : decode cc pc = .ok (.aastore, 1)) (ht : xth M pc = none) (hv : xok h v = true) (hA : xA h a 2 = true) (hin : ¬ (j < 0 ∨ xl h a ≤ j.toNatClampNeg)) (hb : g.1 ≤ a) : Ev g M pc L (v :: .int j :: .ref a :: st) h out = Ev g M (pc + 1) L st (xpe h a j.toNatClampNeg v) out := by
  subst hk; exact ev_ast (t := 2) hd rfl ht rfl rfl (by simp only [xnx]; rw [if_pos hv]) hA hin hb
theorem s_alen {a t n : Nat} {f : Nat → Value} (hk : xcode M = cc) (hd : decode cc pc = .ok (.arraylength, 1)) (ht : xth M pc = none) (hA : h.2.2 a = some (.inr (t, n, f))) : Ev g M pc L (.ref a :: st) h out = Ev g M (pc + 1) L (.int (nI n) :: st) h out := by
  subst hk; exact ev_nx (q := (pc + 1, L, .int (nI n) :: st, h)) hd rfl ht rfl rfl (by simp [xnx, hA])
theorem s_newa {t : ArrayType} {k : Nat} {n : Int32} (hk : xcode M = cc) (hd : decode cc pc = .ok (.newarray t, 2)) (ht : xth M pc = none) (hkk : xtk t = some k) (hn : 0 ≤ n) (hr : xrm g h n.toNatClampNeg = true) : Ev g M pc L (.int n :: st) h out = Ev g M (pc + 2) L (.ref h.1 :: st) (xnw h n.toNatClampNeg (.inr (k, n.toNatClampNeg, fun _ => xdf k))) out := by
  subst hk; exact ev_nx (q := (pc + 2, L, .ref h.1 :: st, xnw h n.toNatClampNeg (.inr (k, n.toNatClampNeg, fun _ => xdf k)))) hd rfl ht rfl rfl (by simp only [xnx, hkk, xnwa]; rw [if_pos ⟨hn, hr⟩])
theorem s_anew {i : Nat} {n : Int32} (hk : xcode M = cc) (hd : decode cc pc = .ok (.anewarray i, 3)) (ht : xth M pc = none) (ho : (xoc M = 0 ∧ i = 7) ∨ (xoc M = 15 ∧ i = 2)) (hn : 0 ≤ n) (hr : xrm g h n.toNatClampNeg = true) : Ev g M pc L (.int n :: st) h out = Ev g M (pc + 3) L (.ref h.1 :: st) (xnw h n.toNatClampNeg (.inr (2, n.toNatClampNeg, fun _ => xdf 2))) out := by
  subst hk; exact ev_nx (q := (pc + 3, L, .ref h.1 :: st, xnw h n.toNatClampNeg (.inr (2, n.toNatClampNeg, fun _ => xdf 2)))) hd rfl ht rfl rfl (by simp only [xnx, xnwa]; rw [if_pos ho, if_pos ⟨hn, hr⟩])
theorem s_new {i o c N : Nat} (hk : xcode M = cc) (hd : decode cc pc = .ok (.new i, 3)) (ht : xth M pc = none) (hoc : xoc M = o) (hc : xcl o i = some c) (hN : xNf c = N) (hr : xrm g h N = true) : Ev g M pc L st h out = Ev g M (pc + 3) L (.ref h.1 :: st) (xnw h N (.inl (c, fun j => xdf (xft c j)))) out := by
  subst hk hoc hN; exact ev_nx (q := (pc + 3, L, .ref h.1 :: st, xnw h (xNf c) (.inl (c, fun j => xdf (xft c j))))) hd rfl ht rfl rfl (by simp only [xnx, hc]; rw [if_pos hr])
theorem s_castN {i : Nat} (hk : xcode M = cc) (hd : decode cc pc = .ok (.checkcast i, 3)) (ht : xth M pc = none) : Ev g M pc L (.null :: st) h out = Ev g M (pc + 3) L (.null :: st) h out := by
  subst hk; exact ev_nx (q := (pc + 3, L, .null :: st, h)) hd rfl ht rfl rfl rfl
theorem s_cast {i o c a : Nat} (hk : xcode M = cc) (hd : decode cc pc = .ok (.checkcast i, 3)) (ht : xth M pc = none) (hoc : xoc M = o) (hc : xcl o i = some c) (ho : xO h a c = true) : Ev g M pc L (.ref a :: st) h out = Ev g M (pc + 3) L (.ref a :: st) h out := by
  subst hk hoc; exact ev_nx (q := (pc + 3, L, .ref a :: st, h)) hd rfl ht rfl rfl (by simp only [xnx, hc]; rw [if_pos ho])
theorem s_ret (hk : xcode M = cc) (hd : decode cc pc = .ok (.return_, 1)) (ht : xth M pc = none) (hr : xret M = none) : Ev g M pc L [] h out = (out = (.inl none, h)) := by
  subst hk; exact ev_rt hd rfl ht (by simp [xrt, hr])
theorem s_iret {x : Int32} (hk : xcode M = cc) (hd : decode cc pc = .ok (.ireturn, 1)) (ht : xth M pc = none) (hr : xret M = some .int) : Ev g M pc L [.int x] h out = (out = (.inl (some (.int x)), h)) := by
  subst hk; exact ev_rt hd rfl ht (by simp [xrt, hr])
theorem s_zret {x : Int32} (hk : xcode M = cc) (hd : decode cc pc = .ok (.ireturn, 1)) (ht : xth M pc = none) (hr : xret M = some .boolean) (hx : x = 0 ∨ x = 1) : Ev g M pc L [.int x] h out = (out = (.inl (some (.int x)), h)) := by
  subst hk; exact ev_rt hd rfl ht (by simp [xrt, hr, hx])
theorem s_aret {v : Value} {t : String} (hk : xcode M = cc) (hd : decode cc pc = .ok (.areturn, 1)) (ht : xth M pc = none) (hr : xret M = some (.object t)) (hv : xrd v = true) : Ev g M pc L [v] h out = (out = (.inl (some v), h)) := by
  subst hk; exact ev_rt hd rfl ht (by simp [xrt, hr, hv])
theorem s_rret {v : Value} {t : FieldType} (hk : xcode M = cc) (hd : decode cc pc = .ok (.areturn, 1)) (ht : xth M pc = none) (hr : xret M = some (.array t)) (hv : xrd v = true) : Ev g M pc L [v] h out = (out = (.inl (some v), h)) := by
  subst hk; exact ev_rt hd rfl ht (by simp [xrt, hr, hv])
theorem s_throw {E i : Nat} (hk : xcode M = cc) (hd : decode cc pc = .ok (.new i, 3)) (ht : xth M pc = some E) : Ev g M pc L [] h out = (xrm g h 6 = true ∧ out = (.inr E, (h.1 + 1, h.2.1 + 6, h.2.2))) := by
  subst hk; exact ev_th hd rfl ht
theorem s_oi {i o q : Nat} (hk : xcode M = cc) (hd : decode cc pc = .ok (.invokespecial i, 3)) (ht : xth M pc = none) (hoc : xoc M = o) (hm : xml o i = none) (hn : xnt o i 0 = 1) (hr : (st.map fun v => v.category).sum ≤ 8) : Ev g M pc L (.ref q :: st) h out = Ev g M (pc + 3) L st h out := by
  subst hk hoc; exact ev_nx (q := (pc + 3, L, st, h)) hd rfl ht rfl (xc_N hm).2.2 (by simp only [xnx]; rw [if_pos hn, if_pos hr])
theorem s_ac {i o q0 q1 : Nat} {sp dp n : Int32} (hk : xcode M = cc) (hd : decode cc pc = .ok (.invokestatic i, 3)) (ht : xth M pc = none) (hoc : xoc M = o) (hm : xml o i = none) (hn : xnt o i 1 = 2) (hc : xA h q0 2 = true ∧ xA h q1 2 = true ∧ g.1 ≤ q1 ∧ 0 ≤ sp ∧ 0 ≤ dp ∧ 0 ≤ n ∧ sp.toNatClampNeg + n.toNatClampNeg ≤ xl h q0 ∧ dp.toNatClampNeg + n.toNatClampNeg ≤ xl h q1 ∧ (∀ j, j < n.toNatClampNeg → xok h (xe h q0 (sp.toNatClampNeg + j)) = true) ∧ (st.map fun v => v.category).sum ≤ 8) : Ev g M pc L (.int n :: .int dp :: .ref q1 :: .int sp :: .ref q0 :: st) h out = Ev g M (pc + 3) L st (xcp h q0 q1 sp.toNatClampNeg dp.toNatClampNeg n.toNatClampNeg) out := by
  subst hk hoc; exact ev_nx (q := (pc + 3, L, st, xcp h q0 q1 sp.toNatClampNeg dp.toNatClampNeg n.toNatClampNeg)) hd rfl ht rfl (xc_N hm).2.1 (by simp only [xnx]; rw [if_pos hn, if_pos hc])
theorem s_gc {i o q : Nat} (hk : xcode M = cc) (hd : decode cc pc = .ok (.invokevirtual i, 3)) (ht : xth M pc = none) (hoc : xoc M = o) (hm : xml o i = none) (hn : xnt o i 2 = 3) (hc : xA h q 2 = true ∧ (st.map fun v => v.category).sum ≤ 8) : Ev g M pc L (.ref q :: st) h out = Ev g M (pc + 3) L (.ref g.2.2 :: st) h out := by
  subst hk hoc; exact ev_nx (q := (pc + 3, L, .ref g.2.2 :: st, h)) hd rfl ht rfl (xc_N hm).1 (by simp only [xnx]; rw [if_pos hn, if_pos hc])
/-- calls -/
theorem s_cV {k o M' n c a : Nat} {As r : List Value} {v : Option Value} {h1 : xH} {L' : List (Option Value)} {st' : List Value} (hk : xcode M = cc) (hd : decode cc pc = .ok (.invokevirtual k, 3)) (ht : xth M pc = none) (hoc : xoc M = o) (hm : xml o k = some (0, M', n, c)) (hp : xpop n [] st = some (As, .ref a :: r)) (hrr : xroom M M' (.ref a :: As) r = true) (hpad : xpad M' (.ref a :: As) = L') (hst : v.toList ++ r = st') (ho : xO h a c = true) (k1 : Ev g M' 0 L' [] h (.inl v, h1)) : Ev g M pc L st h out = Ev g M (pc + 3) L st' h1 out := by
  subst hk hoc hpad hst; exact ev_cl hd rfl ht rfl (xc_V hm hp ho hrr) k1
theorem s_cS {k o M' n c : Nat} {As r : List Value} {v : Option Value} {h1 : xH} {L' : List (Option Value)} {st' : List Value} (hk : xcode M = cc) (hd : decode cc pc = .ok (.invokestatic k, 3)) (ht : xth M pc = none) (hoc : xoc M = o) (hm : xml o k = some (1, M', n, c)) (hp : xpop n [] st = some (As, r)) (hrr : xroom M M' As r = true) (hpad : xpad M' As = L') (hst : v.toList ++ r = st') (k1 : Ev g M' 0 L' [] h (.inl v, h1)) : Ev g M pc L st h out = Ev g M (pc + 3) L st' h1 out := by
  subst hk hoc hpad hst; exact ev_cl hd rfl ht rfl (xc_S hm hp hrr) k1
theorem s_cI {k o M' n c a : Nat} {As r : List Value} {v : Option Value} {h1 : xH} {L' : List (Option Value)} {st' : List Value} (hk : xcode M = cc) (hd : decode cc pc = .ok (.invokespecial k, 3)) (ht : xth M pc = none) (hoc : xoc M = o) (hm : xml o k = some (2, M', n, c)) (hp : xpop n [] st = some (As, .ref a :: r)) (hrr : xroom M M' (.ref a :: As) r = true) (hpad : xpad M' (.ref a :: As) = L') (hst : v.toList ++ r = st') (k1 : Ev g M' 0 L' [] h (.inl v, h1)) : Ev g M pc L st h out = Ev g M (pc + 3) L st' h1 out := by
  subst hk hoc hpad hst; exact ev_cl hd rfl ht rfl (xc_I hm hp hrr) k1
theorem s_tV {k o M' n c a E : Nat} {As r : List Value} {h1 : xH} {L' : List (Option Value)} (hk : xcode M = cc) (hd : decode cc pc = .ok (.invokevirtual k, 3)) (ht : xth M pc = none) (hoc : xoc M = o) (hm : xml o k = some (0, M', n, c)) (hp : xpop n [] st = some (As, .ref a :: r)) (hrr : xroom M M' (.ref a :: As) r = true) (hpad : xpad M' (.ref a :: As) = L') (hh : xhh M = []) (ho : xO h a c = true) (k1 : Ev g M' 0 L' [] h (.inr E, h1)) : Ev g M pc L st h out = (out = (.inr E, h1)) := by
  subst hk hoc hpad; exact ev_ct hd rfl ht rfl (xc_V hm hp ho hrr) hh k1
theorem s_hV {k o M' n c a E t : Nat} {As r : List Value} {h1 : xH} {L' : List (Option Value)} (hk : xcode M = cc) (hd : decode cc pc = .ok (.invokevirtual k, 3)) (ht : xth M pc = none) (hoc : xoc M = o) (hm : xml o k = some (0, M', n, c)) (hp : xpop n [] st = some (As, .ref a :: r)) (hrr : xroom M M' (.ref a :: As) r = true) (hpad : xpad M' (.ref a :: As) = L') (hh : xhh M ≠ []) (hhd : xhd M pc E = some t) (ho : xO h a c = true) (k1 : Ev g M' 0 L' [] h (.inr E, h1)) : Ev g M pc L st h out = ∀ z : Nat, Ev g M t L [.ref z] h1 out := by
  subst hk hoc hpad; exact ev_cc hd rfl ht rfl (xc_V hm hp ho hrr) hh hhd k1
end XW
theorem xcat_int (x : Int32) : (Value.int x).category = 1 := id rfl
theorem xcat_long (x : Int64) : (Value.long x).category = 2 := id rfl
theorem xcat_ref (a : Nat) : (Value.ref a).category = 1 := id rfl
theorem xcat_null : Value.null.category = 1 := id rfl
