/-! ===== the class: its objects as a function of the reference's state s and of its own o, by program (wip/tools/gen_class.py) ===== -/
/-- roles of addresses, the lists' rows and their lengths; the heap below -/
abbrev zT : Type := ((Nat → Option (Nat × Nat)) × (Nat → Nat) × (Nat → Nat)) × xH
def oF (vs : List Value) : Nat → Value := fun j => vs.getD j (.int 0)
theorem oF_set {vs : List Value} {j : Nat} {v : Value} (h : j < vs.length) : updV (oF vs) j v = oF (vs.set j v) := by
  funext i
  simp only [updV, oF, List.getD_eq_getElem?_getD, List.getElem?_set]
  by_cases e : i = j
  · subst e; simp [h]
  · simp [e, Ne.symm e]
def rP (A : Nat → Nat → Nat) (v : Int32) : Value := if v = -1 then .null else .ref (A 30 v.toNatClampNeg)
def rS (A : Nat → Nat → Nat) (v : Int32) : Value := if v = -1 then .null else .ref (A 34 v.toNatClampNeg)
/-- the lists: 0 pilots, 1 ships, 2 ships by length, 3 the list, 4 the kept one, 5 as it was: lengths, numbers, whose -/
def sz (s o : mS) (l : Nat) : Int32 := match l with | 0 => s 2 0 | 1 => s 19 0 | 2 => o 90 0 | 3 => s 18 0 | 4 => o 91 0 | _ => o 92 0
def nu (s o : mS) (l j : Nat) : Nat := match l with | 0 => j | 1 => j | 2 => (o 93 j).toNatClampNeg | 3 => (s 17 j).toNatClampNeg | 4 => (o 94 j).toNatClampNeg | _ => (o 95 j).toNatClampNeg
def lk (l : Nat) : Nat := match l with | 1 => 34 | 2 => 34 | _ => 30
def lC (n : Nat) (f : Nat → Value) : Nat → Value := fun j => if j < n then f j else .null
def lob (z : zT) (s o : mS) (l : Nat) : xE := .inl (0, oF [.int (o 63 l), .ref (z.1.2.1 l), .int (sz s o l)])
def lrw (A : Nat → Nat → Nat) (z : zT) (s o : mS) (l : Nat) : xE := .inr (2, z.1.2.2 l, lC (sz s o l).toNatClampNeg (fun j => .ref (A (lk l) (nu s o l j))))
def ad (A : Nat → Nat → Nat) (z : zT) (k i : Nat) : Nat := match k with | 7 => z.1.2.1 0 | 8 => z.1.2.1 1 | 9 => z.1.2.1 2 | 10 => z.1.2.1 3 | 11 => z.1.2.1 4 | 12 => z.1.2.1 5 | _ => A k i
def ccell (A : Nat → Nat → Nat) (z : zT) (s o : mS) (k i : Nat) : xE := match k with
  | 0 => .inl (10, oF [.ref (A 1 0), .ref (A 2 0), .ref (A 3 0), .ref (A 13 0), .ref (A 16 0), .ref (A 18 0), .ref (A 19 0), .ref (A 20 0), .ref (A 21 0), .ref (A 22 0), .int (s 1 0), .int (s 40 0), .int (s 49 0), .int (s 48 0), .int (o 60 0)])
  | 1 => lob z s o 0
  | 2 => lob z s o 1
  | 3 => lob z s o 2
  | 4 => lob z s o 3
  | 5 => lob z s o 4
  | 6 => lob z s o 5
  | 7 => lrw A z s o 0
  | 8 => lrw A z s o 1
  | 9 => lrw A z s o 2
  | 10 => lrw A z s o 3
  | 11 => lrw A z s o 4
  | 12 => lrw A z s o 5
  | 13 => .inl (8, oF [.ref (A 14 0), .ref (A 15 0)])
  | 14 => .inr (0, 9600, fun j => .int (s 34 j))
  | 15 => .inr (0, 400, fun j => .int (s 35 j))
  | 16 => .inl (2, oF [.ref (A 17 0), .int (s 37 0)])
  | 17 => .inr (0, 24, fun j => .int (o 62 j))
  | 18 => .inl (5, oF [.int (s 41 0), .int (s 42 0), .int (s 43 0)])
  | 19 => .inl (6, oF [.ref (A 4 0)])
  | 20 => .inl (6, oF [.ref (A 5 0)])
  | 21 => .inl (6, oF [.ref (A 6 0)])
  | 22 => .inl (1, oF [.ref (A 23 0), .ref (A 24 0), .ref (A 25 0), .int (s 47 0)])
  | 23 => .inr (0, 300, fun j => .int (s 44 j))
  | 24 => .inr (0, 300, fun j => .int (s 45 j))
  | 25 => .inr (0, 300, fun j => .int (s 46 j))
  | 30 => .inl (4, oF [.int (nI i), .int (s 3 i), .int (s 4 i), .int (s 5 i), .ref (A 31 i), .ref (A 32 i), .ref (A 33 i), .int (o 61 i), .int (s 6 i)])
  | 31 => .inl (3, oF [.int (s 8 i), .int (o 64 i), .int (o 65 i), .int (s 10 i), .int (s 15 i), .int (s 11 i), .int (s 12 i), .int (o 66 i), rS A (s 13 i)])
  | 32 => .inl (3, oF [.int (o 70 i), .int (o 71 i), .int (o 72 i), .int (o 73 i), .int (o 74 i), .int (o 75 i), .int (o 76 i), .int (o 77 i), rS A (o 78 i)])
  | 33 => .inr (1, 400, fun d => if d < 400 then .int (s 7 (400 * i + d)) else .int 0)
  | 34 => .inl (7, oF [.int (nI i), .int (s 20 i), .int (s 21 i), .int (s 22 i), .int (s 23 i), .int (s 24 i), .int (s 25 i), .ref (A 35 i), .ref (A 36 i)])
  | 35 => .inl (9, oF [.int (s 26 i), .int (s 27 i), rP A (s 28 i), rP A (s 29 i), rP A (s 30 i), .int (s 31 i), .int (s 32 i), .int (s 33 i)])
  | 36 => .inl (9, oF [.int (o 80 i), .int (o 81 i), rP A (o 82 i), rP A (o 83 i), rP A (o 84 i), .int (o 85 i), .int (o 86 i), .int (o 87 i)])
  | _ => .inl (0, oF [])
def ownS (F j : Nat) : Nat × Nat := match F with | 1 => (0, 0) | 2 => (1, 0) | 3 => (30, j) | 4 => (30, j) | 5 => (30, j) | 6 => (30, j) | 7 => (33, j / 400) | 8 => (31, j) | 10 => (31, j) | 11 => (31, j) | 12 => (31, j) | 13 => (31, j) | 15 => (31, j) | 17 => (4, 0) | 18 => (4, 0) | 19 => (2, 0) | 20 => (34, j) | 21 => (34, j) | 22 => (34, j) | 23 => (34, j) | 24 => (34, j) | 25 => (34, j) | 26 => (35, j) | 27 => (35, j) | 28 => (35, j) | 29 => (35, j) | 30 => (35, j) | 31 => (35, j) | 32 => (35, j) | 33 => (35, j) | 34 => (14, 0) | 35 => (15, 0) | 37 => (16, 0) | 40 => (0, 0) | 41 => (18, 0) | 42 => (18, 0) | 43 => (18, 0) | 44 => (23, 0) | 45 => (24, 0) | 46 => (25, 0) | 47 => (22, 0) | 48 => (0, 0) | 49 => (0, 0) | _ => (99, 0)
def ownO (F j : Nat) : Nat × Nat := match F with | 60 => (0, 0) | 61 => (30, j) | 62 => (17, 0) | 63 => (j + 1, 0) | 64 => (31, j) | 65 => (31, j) | 66 => (31, j) | 70 => (32, j) | 71 => (32, j) | 72 => (32, j) | 73 => (32, j) | 74 => (32, j) | 75 => (32, j) | 76 => (32, j) | 77 => (32, j) | 78 => (32, j) | 80 => (36, j) | 81 => (36, j) | 82 => (36, j) | 83 => (36, j) | 84 => (36, j) | 85 => (36, j) | 86 => (36, j) | 87 => (36, j) | 90 => (3, 0) | 91 => (5, 0) | 92 => (6, 0) | 93 => (3, 0) | 94 => (5, 0) | 95 => (6, 0) | _ => (99, 0)
def gp (k : Nat) : Nat := match k with | 7 => 1 | 8 => 2 | 9 => 3 | 10 => 4 | 11 => 5 | 12 => 6 | k => k
section CG
variable {A : Nat → Nat → Nat} {z : zT} {s o s' o' : mS} {i : Nat}
theorem cc_0 (hs : ∀ F j, ownS F j = (0, 0) → s' F j = s F j) (ho : ∀ F j, ownO F j = (0, 0) → o' F j = o F j) : ccell A z s' o' 0 0 = ccell A z s o 0 0 := by
  have e0 : s' 1 0 = s 1 0 := hs 1 0 rfl
  have e1 : s' 40 0 = s 40 0 := hs 40 0 rfl
  have e2 : s' 49 0 = s 49 0 := hs 49 0 rfl
  have e3 : s' 48 0 = s 48 0 := hs 48 0 rfl
  have e4 : o' 60 0 = o 60 0 := ho 60 0 rfl
  simp only [ccell, lob, lrw, sz, nu, e0, e1, e2, e3, e4]
theorem cc_1 (hs : ∀ F j, ownS F j = (1, 0) → s' F j = s F j) (ho : ∀ F j, ownO F j = (1, 0) → o' F j = o F j) : ccell A z s' o' 1 0 = ccell A z s o 1 0 := by
  have e0 : s' 2 0 = s 2 0 := hs 2 0 rfl
  have e1 : o' 63 0 = o 63 0 := ho 63 0 rfl
  simp only [ccell, lob, lrw, sz, nu, e0, e1]
theorem cc_2 (hs : ∀ F j, ownS F j = (2, 0) → s' F j = s F j) (ho : ∀ F j, ownO F j = (2, 0) → o' F j = o F j) : ccell A z s' o' 2 0 = ccell A z s o 2 0 := by
  have e0 : s' 19 0 = s 19 0 := hs 19 0 rfl
  have e1 : o' 63 1 = o 63 1 := ho 63 1 rfl
  simp only [ccell, lob, lrw, sz, nu, e0, e1]
theorem cc_3 (hs : ∀ F j, ownS F j = (3, 0) → s' F j = s F j) (ho : ∀ F j, ownO F j = (3, 0) → o' F j = o F j) : ccell A z s' o' 3 0 = ccell A z s o 3 0 := by
  have e0 : o' 90 0 = o 90 0 := ho 90 0 rfl
  have e1 : ∀ j, o' 93 j = o 93 j := fun j => ho 93 j rfl
  have e2 : o' 63 2 = o 63 2 := ho 63 2 rfl
  simp only [ccell, lob, lrw, sz, nu, e0, e1, e2]
theorem cc_4 (hs : ∀ F j, ownS F j = (4, 0) → s' F j = s F j) (ho : ∀ F j, ownO F j = (4, 0) → o' F j = o F j) : ccell A z s' o' 4 0 = ccell A z s o 4 0 := by
  have e0 : s' 18 0 = s 18 0 := hs 18 0 rfl
  have e1 : ∀ j, s' 17 j = s 17 j := fun j => hs 17 j rfl
  have e2 : o' 63 3 = o 63 3 := ho 63 3 rfl
  simp only [ccell, lob, lrw, sz, nu, e0, e1, e2]
theorem cc_5 (hs : ∀ F j, ownS F j = (5, 0) → s' F j = s F j) (ho : ∀ F j, ownO F j = (5, 0) → o' F j = o F j) : ccell A z s' o' 5 0 = ccell A z s o 5 0 := by
  have e0 : o' 91 0 = o 91 0 := ho 91 0 rfl
  have e1 : ∀ j, o' 94 j = o 94 j := fun j => ho 94 j rfl
  have e2 : o' 63 4 = o 63 4 := ho 63 4 rfl
  simp only [ccell, lob, lrw, sz, nu, e0, e1, e2]
theorem cc_6 (hs : ∀ F j, ownS F j = (6, 0) → s' F j = s F j) (ho : ∀ F j, ownO F j = (6, 0) → o' F j = o F j) : ccell A z s' o' 6 0 = ccell A z s o 6 0 := by
  have e0 : o' 92 0 = o 92 0 := ho 92 0 rfl
  have e1 : ∀ j, o' 95 j = o 95 j := fun j => ho 95 j rfl
  have e2 : o' 63 5 = o 63 5 := ho 63 5 rfl
  simp only [ccell, lob, lrw, sz, nu, e0, e1, e2]
theorem cc_7 (hs : ∀ F j, ownS F j = (1, 0) → s' F j = s F j) (ho : ∀ F j, ownO F j = (1, 0) → o' F j = o F j) : ccell A z s' o' 7 0 = ccell A z s o 7 0 := by
  have e0 : s' 2 0 = s 2 0 := hs 2 0 rfl
  simp only [ccell, lob, lrw, sz, nu, e0]
theorem cc_8 (hs : ∀ F j, ownS F j = (2, 0) → s' F j = s F j) (ho : ∀ F j, ownO F j = (2, 0) → o' F j = o F j) : ccell A z s' o' 8 0 = ccell A z s o 8 0 := by
  have e0 : s' 19 0 = s 19 0 := hs 19 0 rfl
  simp only [ccell, lob, lrw, sz, nu, e0]
theorem cc_9 (hs : ∀ F j, ownS F j = (3, 0) → s' F j = s F j) (ho : ∀ F j, ownO F j = (3, 0) → o' F j = o F j) : ccell A z s' o' 9 0 = ccell A z s o 9 0 := by
  have e0 : o' 90 0 = o 90 0 := ho 90 0 rfl
  have e1 : ∀ j, o' 93 j = o 93 j := fun j => ho 93 j rfl
  simp only [ccell, lob, lrw, sz, nu, e0, e1]
theorem cc_10 (hs : ∀ F j, ownS F j = (4, 0) → s' F j = s F j) (ho : ∀ F j, ownO F j = (4, 0) → o' F j = o F j) : ccell A z s' o' 10 0 = ccell A z s o 10 0 := by
  have e0 : s' 18 0 = s 18 0 := hs 18 0 rfl
  have e1 : ∀ j, s' 17 j = s 17 j := fun j => hs 17 j rfl
  simp only [ccell, lob, lrw, sz, nu, e0, e1]
theorem cc_11 (hs : ∀ F j, ownS F j = (5, 0) → s' F j = s F j) (ho : ∀ F j, ownO F j = (5, 0) → o' F j = o F j) : ccell A z s' o' 11 0 = ccell A z s o 11 0 := by
  have e0 : o' 91 0 = o 91 0 := ho 91 0 rfl
  have e1 : ∀ j, o' 94 j = o 94 j := fun j => ho 94 j rfl
  simp only [ccell, lob, lrw, sz, nu, e0, e1]
theorem cc_12 (hs : ∀ F j, ownS F j = (6, 0) → s' F j = s F j) (ho : ∀ F j, ownO F j = (6, 0) → o' F j = o F j) : ccell A z s' o' 12 0 = ccell A z s o 12 0 := by
  have e0 : o' 92 0 = o 92 0 := ho 92 0 rfl
  have e1 : ∀ j, o' 95 j = o 95 j := fun j => ho 95 j rfl
  simp only [ccell, lob, lrw, sz, nu, e0, e1]
theorem cc_13 (hs : ∀ F j, ownS F j = (13, 0) → s' F j = s F j) (ho : ∀ F j, ownO F j = (13, 0) → o' F j = o F j) : ccell A z s' o' 13 0 = ccell A z s o 13 0 := by
  simp only [ccell]
theorem cc_14 (hs : ∀ F j, ownS F j = (14, 0) → s' F j = s F j) (ho : ∀ F j, ownO F j = (14, 0) → o' F j = o F j) : ccell A z s' o' 14 0 = ccell A z s o 14 0 := by
  have e0 : ∀ j, s' 34 j = s 34 j := fun j => hs 34 j rfl
  simp only [ccell, lob, lrw, sz, nu, e0]
theorem cc_15 (hs : ∀ F j, ownS F j = (15, 0) → s' F j = s F j) (ho : ∀ F j, ownO F j = (15, 0) → o' F j = o F j) : ccell A z s' o' 15 0 = ccell A z s o 15 0 := by
  have e0 : ∀ j, s' 35 j = s 35 j := fun j => hs 35 j rfl
  simp only [ccell, lob, lrw, sz, nu, e0]
theorem cc_16 (hs : ∀ F j, ownS F j = (16, 0) → s' F j = s F j) (ho : ∀ F j, ownO F j = (16, 0) → o' F j = o F j) : ccell A z s' o' 16 0 = ccell A z s o 16 0 := by
  have e0 : s' 37 0 = s 37 0 := hs 37 0 rfl
  simp only [ccell, lob, lrw, sz, nu, e0]
theorem cc_17 (hs : ∀ F j, ownS F j = (17, 0) → s' F j = s F j) (ho : ∀ F j, ownO F j = (17, 0) → o' F j = o F j) : ccell A z s' o' 17 0 = ccell A z s o 17 0 := by
  have e0 : ∀ j, o' 62 j = o 62 j := fun j => ho 62 j rfl
  simp only [ccell, lob, lrw, sz, nu, e0]
theorem cc_18 (hs : ∀ F j, ownS F j = (18, 0) → s' F j = s F j) (ho : ∀ F j, ownO F j = (18, 0) → o' F j = o F j) : ccell A z s' o' 18 0 = ccell A z s o 18 0 := by
  have e0 : s' 41 0 = s 41 0 := hs 41 0 rfl
  have e1 : s' 42 0 = s 42 0 := hs 42 0 rfl
  have e2 : s' 43 0 = s 43 0 := hs 43 0 rfl
  simp only [ccell, lob, lrw, sz, nu, e0, e1, e2]
theorem cc_19 (hs : ∀ F j, ownS F j = (19, 0) → s' F j = s F j) (ho : ∀ F j, ownO F j = (19, 0) → o' F j = o F j) : ccell A z s' o' 19 0 = ccell A z s o 19 0 := by
  simp only [ccell]
theorem cc_20 (hs : ∀ F j, ownS F j = (20, 0) → s' F j = s F j) (ho : ∀ F j, ownO F j = (20, 0) → o' F j = o F j) : ccell A z s' o' 20 0 = ccell A z s o 20 0 := by
  simp only [ccell]
theorem cc_21 (hs : ∀ F j, ownS F j = (21, 0) → s' F j = s F j) (ho : ∀ F j, ownO F j = (21, 0) → o' F j = o F j) : ccell A z s' o' 21 0 = ccell A z s o 21 0 := by
  simp only [ccell]
theorem cc_22 (hs : ∀ F j, ownS F j = (22, 0) → s' F j = s F j) (ho : ∀ F j, ownO F j = (22, 0) → o' F j = o F j) : ccell A z s' o' 22 0 = ccell A z s o 22 0 := by
  have e0 : s' 47 0 = s 47 0 := hs 47 0 rfl
  simp only [ccell, lob, lrw, sz, nu, e0]
theorem cc_23 (hs : ∀ F j, ownS F j = (23, 0) → s' F j = s F j) (ho : ∀ F j, ownO F j = (23, 0) → o' F j = o F j) : ccell A z s' o' 23 0 = ccell A z s o 23 0 := by
  have e0 : ∀ j, s' 44 j = s 44 j := fun j => hs 44 j rfl
  simp only [ccell, lob, lrw, sz, nu, e0]
theorem cc_24 (hs : ∀ F j, ownS F j = (24, 0) → s' F j = s F j) (ho : ∀ F j, ownO F j = (24, 0) → o' F j = o F j) : ccell A z s' o' 24 0 = ccell A z s o 24 0 := by
  have e0 : ∀ j, s' 45 j = s 45 j := fun j => hs 45 j rfl
  simp only [ccell, lob, lrw, sz, nu, e0]
theorem cc_25 (hs : ∀ F j, ownS F j = (25, 0) → s' F j = s F j) (ho : ∀ F j, ownO F j = (25, 0) → o' F j = o F j) : ccell A z s' o' 25 0 = ccell A z s o 25 0 := by
  have e0 : ∀ j, s' 46 j = s 46 j := fun j => hs 46 j rfl
  simp only [ccell, lob, lrw, sz, nu, e0]
theorem cc_30 (hs : ∀ F j, ownS F j = (30, i) → s' F j = s F j) (ho : ∀ F j, ownO F j = (30, i) → o' F j = o F j) : ccell A z s' o' 30 i = ccell A z s o 30 i := by
  have e0 : s' 3 i = s 3 i := hs 3 i rfl
  have e1 : s' 4 i = s 4 i := hs 4 i rfl
  have e2 : s' 5 i = s 5 i := hs 5 i rfl
  have e3 : o' 61 i = o 61 i := ho 61 i rfl
  have e4 : s' 6 i = s 6 i := hs 6 i rfl
  simp only [ccell, lob, lrw, sz, nu, e0, e1, e2, e3, e4]
theorem cc_31 (hs : ∀ F j, ownS F j = (31, i) → s' F j = s F j) (ho : ∀ F j, ownO F j = (31, i) → o' F j = o F j) : ccell A z s' o' 31 i = ccell A z s o 31 i := by
  have e0 : s' 8 i = s 8 i := hs 8 i rfl
  have e1 : o' 64 i = o 64 i := ho 64 i rfl
  have e2 : o' 65 i = o 65 i := ho 65 i rfl
  have e3 : s' 10 i = s 10 i := hs 10 i rfl
  have e4 : s' 15 i = s 15 i := hs 15 i rfl
  have e5 : s' 11 i = s 11 i := hs 11 i rfl
  have e6 : s' 12 i = s 12 i := hs 12 i rfl
  have e7 : o' 66 i = o 66 i := ho 66 i rfl
  have e8 : s' 13 i = s 13 i := hs 13 i rfl
  simp only [ccell, lob, lrw, sz, nu, e0, e1, e2, e3, e4, e5, e6, e7, e8]
theorem cc_32 (hs : ∀ F j, ownS F j = (32, i) → s' F j = s F j) (ho : ∀ F j, ownO F j = (32, i) → o' F j = o F j) : ccell A z s' o' 32 i = ccell A z s o 32 i := by
  have e0 : o' 70 i = o 70 i := ho 70 i rfl
  have e1 : o' 71 i = o 71 i := ho 71 i rfl
  have e2 : o' 72 i = o 72 i := ho 72 i rfl
  have e3 : o' 73 i = o 73 i := ho 73 i rfl
  have e4 : o' 74 i = o 74 i := ho 74 i rfl
  have e5 : o' 75 i = o 75 i := ho 75 i rfl
  have e6 : o' 76 i = o 76 i := ho 76 i rfl
  have e7 : o' 77 i = o 77 i := ho 77 i rfl
  have e8 : o' 78 i = o 78 i := ho 78 i rfl
  simp only [ccell, lob, lrw, sz, nu, e0, e1, e2, e3, e4, e5, e6, e7, e8]
theorem cc_33 (hs : ∀ F j, ownS F j = (33, i) → s' F j = s F j) (ho : ∀ F j, ownO F j = (33, i) → o' F j = o F j) : ccell A z s' o' 33 i = ccell A z s o 33 i := by
  have e : ∀ d, d < 400 → s' 7 (400 * i + d) = s 7 (400 * i + d) := fun d hd => hs 7 _ (by simp only [ownS]; congr 1; omega)
  simp only [ccell]
  congr 3
  funext d
  by_cases hd : d < 400
  · rw [if_pos hd, if_pos hd, e d hd]
  · rw [if_neg hd, if_neg hd]
theorem cc_34 (hs : ∀ F j, ownS F j = (34, i) → s' F j = s F j) (ho : ∀ F j, ownO F j = (34, i) → o' F j = o F j) : ccell A z s' o' 34 i = ccell A z s o 34 i := by
  have e0 : s' 20 i = s 20 i := hs 20 i rfl
  have e1 : s' 21 i = s 21 i := hs 21 i rfl
  have e2 : s' 22 i = s 22 i := hs 22 i rfl
  have e3 : s' 23 i = s 23 i := hs 23 i rfl
  have e4 : s' 24 i = s 24 i := hs 24 i rfl
  have e5 : s' 25 i = s 25 i := hs 25 i rfl
  simp only [ccell, lob, lrw, sz, nu, e0, e1, e2, e3, e4, e5]
theorem cc_35 (hs : ∀ F j, ownS F j = (35, i) → s' F j = s F j) (ho : ∀ F j, ownO F j = (35, i) → o' F j = o F j) : ccell A z s' o' 35 i = ccell A z s o 35 i := by
  have e0 : s' 26 i = s 26 i := hs 26 i rfl
  have e1 : s' 27 i = s 27 i := hs 27 i rfl
  have e2 : s' 28 i = s 28 i := hs 28 i rfl
  have e3 : s' 29 i = s 29 i := hs 29 i rfl
  have e4 : s' 30 i = s 30 i := hs 30 i rfl
  have e5 : s' 31 i = s 31 i := hs 31 i rfl
  have e6 : s' 32 i = s 32 i := hs 32 i rfl
  have e7 : s' 33 i = s 33 i := hs 33 i rfl
  simp only [ccell, lob, lrw, sz, nu, e0, e1, e2, e3, e4, e5, e6, e7]
theorem cc_36 (hs : ∀ F j, ownS F j = (36, i) → s' F j = s F j) (ho : ∀ F j, ownO F j = (36, i) → o' F j = o F j) : ccell A z s' o' 36 i = ccell A z s o 36 i := by
  have e0 : o' 80 i = o 80 i := ho 80 i rfl
  have e1 : o' 81 i = o 81 i := ho 81 i rfl
  have e2 : o' 82 i = o 82 i := ho 82 i rfl
  have e3 : o' 83 i = o 83 i := ho 83 i rfl
  have e4 : o' 84 i = o 84 i := ho 84 i rfl
  have e5 : o' 85 i = o 85 i := ho 85 i rfl
  have e6 : o' 86 i = o 86 i := ho 86 i rfl
  have e7 : o' 87 i = o 87 i := ho 87 i rfl
  simp only [ccell, lob, lrw, sz, nu, e0, e1, e2, e3, e4, e5, e6, e7]
theorem ccell_congr {k : Nat} (hk : k < 37) (h0 : k < 30 → i = 0) (hs : ∀ F j, ownS F j = (gp k, i) → s' F j = s F j) (ho : ∀ F j, ownO F j = (gp k, i) → o' F j = o F j) : ccell A z s' o' k i = ccell A z s o k i := by
  match k, hk, h0, hs, ho with
  | 0, _, h0, hs, ho => have e := h0 (by decide); subst e; exact cc_0 hs ho
  | 1, _, h0, hs, ho => have e := h0 (by decide); subst e; exact cc_1 hs ho
  | 2, _, h0, hs, ho => have e := h0 (by decide); subst e; exact cc_2 hs ho
  | 3, _, h0, hs, ho => have e := h0 (by decide); subst e; exact cc_3 hs ho
  | 4, _, h0, hs, ho => have e := h0 (by decide); subst e; exact cc_4 hs ho
  | 5, _, h0, hs, ho => have e := h0 (by decide); subst e; exact cc_5 hs ho
  | 6, _, h0, hs, ho => have e := h0 (by decide); subst e; exact cc_6 hs ho
  | 7, _, h0, hs, ho => have e := h0 (by decide); subst e; exact cc_7 hs ho
  | 8, _, h0, hs, ho => have e := h0 (by decide); subst e; exact cc_8 hs ho
  | 9, _, h0, hs, ho => have e := h0 (by decide); subst e; exact cc_9 hs ho
  | 10, _, h0, hs, ho => have e := h0 (by decide); subst e; exact cc_10 hs ho
  | 11, _, h0, hs, ho => have e := h0 (by decide); subst e; exact cc_11 hs ho
  | 12, _, h0, hs, ho => have e := h0 (by decide); subst e; exact cc_12 hs ho
  | 13, _, h0, hs, ho => have e := h0 (by decide); subst e; exact cc_13 hs ho
  | 14, _, h0, hs, ho => have e := h0 (by decide); subst e; exact cc_14 hs ho
  | 15, _, h0, hs, ho => have e := h0 (by decide); subst e; exact cc_15 hs ho
  | 16, _, h0, hs, ho => have e := h0 (by decide); subst e; exact cc_16 hs ho
  | 17, _, h0, hs, ho => have e := h0 (by decide); subst e; exact cc_17 hs ho
  | 18, _, h0, hs, ho => have e := h0 (by decide); subst e; exact cc_18 hs ho
  | 19, _, h0, hs, ho => have e := h0 (by decide); subst e; exact cc_19 hs ho
  | 20, _, h0, hs, ho => have e := h0 (by decide); subst e; exact cc_20 hs ho
  | 21, _, h0, hs, ho => have e := h0 (by decide); subst e; exact cc_21 hs ho
  | 22, _, h0, hs, ho => have e := h0 (by decide); subst e; exact cc_22 hs ho
  | 23, _, h0, hs, ho => have e := h0 (by decide); subst e; exact cc_23 hs ho
  | 24, _, h0, hs, ho => have e := h0 (by decide); subst e; exact cc_24 hs ho
  | 25, _, h0, hs, ho => have e := h0 (by decide); subst e; exact cc_25 hs ho
  | 26, _, h0, hs, ho => simp only [ccell]
  | 27, _, h0, hs, ho => simp only [ccell]
  | 28, _, h0, hs, ho => simp only [ccell]
  | 29, _, h0, hs, ho => simp only [ccell]
  | 30, _, h0, hs, ho => exact cc_30 hs ho
  | 31, _, h0, hs, ho => exact cc_31 hs ho
  | 32, _, h0, hs, ho => exact cc_32 hs ho
  | 33, _, h0, hs, ho => exact cc_33 hs ho
  | 34, _, h0, hs, ho => exact cc_34 hs ho
  | 35, _, h0, hs, ho => exact cc_35 hs ho
  | 36, _, h0, hs, ho => exact cc_36 hs ho
  | n + 37, hk, h0, hs, ho => exact absurd hk (by omega)
end CG
def cps (z : zT) : Nat := z.1.2.2 0 + z.1.2.2 1 + z.1.2.2 2 + z.1.2.2 3 + z.1.2.2 4 + z.1.2.2 5
def sqs (z : zT) : Nat := z.1.2.2 0 * z.1.2.2 0 + z.1.2.2 1 * z.1.2.2 1 + z.1.2.2 2 * z.1.2.2 2 + z.1.2.2 3 * z.1.2.2 3 + z.1.2.2 4 * z.1.2.2 4 + z.1.2.2 5 * z.1.2.2 5
/-- the roles that are there -/
def lv (z : zT) (P S k i : Nat) : Prop := (k < 26 ∧ i = 0 ∧ (7 ≤ k → k ≤ 12 → z.1.2.2 (k - 7) ≠ 0)) ∨ (30 ≤ k ∧ k ≤ 33 ∧ i < P) ∨ (34 ≤ k ∧ k ≤ 36 ∧ i < S)
def zok (g : Nat × Nat × Nat) (A : Nat → Nat → Nat) (z : zT) (P S : Nat) : Prop :=
  (∀ k i, lv z P S k i → z.1.1 (ad A z k i) = some (k, i) ∧ g.1 ≤ ad A z k i ∧ ad A z k i < z.2.1) ∧
  (∀ a k i, z.1.1 a = some (k, i) → lv z P S k i ∧ a = ad A z k i) ∧
  (∀ l, l < 6 → z.1.2.2 l = 0 → z.1.2.1 l = g.2.1) ∧
  (g.2.1 < g.1 ∧ ∃ f, z.2.2.2 g.2.1 = some (.inr (5, 0, f))) ∧
  (∀ l, l < 6 → z.1.2.2 l ≤ 700) ∧ (P ≤ 60 ∧ S ≤ 400) ∧
  (z.2.1 ≤ g.1 + 500000 + cps z ∧ z.2.2.1 ≤ 3000000 + sqs z)
/-- the heap with the class's objects laid over it -/
def cp (A : Nat → Nat → Nat) (z : zT) (s o : mS) : xH := (z.2.1, z.2.2.1, fun a => match z.1.1 a with | none => z.2.2.2 a | some r => some (ccell A z s o r.1 r.2))
section CP
variable {g : Nat × Nat × Nat} {A : Nat → Nat → Nat} {z : zT} {s o s' o' : mS} {P S : Nat}
theorem lv0 {k i : Nat} (h : lv z P S k i) : k < 30 → i = 0 := by
  intro hk
  rcases h with h | h | h
  · exact h.2.1
  · omega
  · omega
theorem lv37 {k i : Nat} (h : lv z P S k i) : k < 37 := by
  rcases h with h | h | h <;> omega
theorem cp_at (hY : zok g A z P S) {k i : Nat} (hl : lv z P S k i) : (cp A z s o).2.2 (ad A z k i) = some (ccell A z s o k i) := by
  simp only [cp, (hY.1 k i hl).1]
theorem cp_at_none {a : Nat} (h : z.1.1 a = none) : (cp A z s o).2.2 a = z.2.2.2 a := by
  simp only [cp, h]
theorem cp_ext {H : xH} (h1 : H.1 = z.2.1) (h2 : H.2.1 = z.2.2.1) (h3 : ∀ a, H.2.2 a = (cp A z s o).2.2 a) : H = cp A z s o := by
  obtain ⟨x, y, f⟩ := H
  simp only at h1 h2 h3
  subst h1 h2
  exact congrArg (fun f => (z.2.1, z.2.2.1, f)) (funext h3)
/-- equal states, equal heaps -/
theorem cp_congr (hs : ∀ F j, ownS F j ≠ (99, 0) → s' F j = s F j) (ho : ∀ F j, ownO F j ≠ (99, 0) → o' F j = o F j) (hY : zok g A z P S) : cp A z s' o' = cp A z s o := by
  refine cp_ext rfl rfl (fun a => ?_)
  simp only [cp]
  cases hr : z.1.1 a with
  | none => rfl
  | some r =>
    have hl := (hY.2.1 a r.1 r.2 hr).1
    have hk : gp r.1 ≠ 99 := by
      have : r.1 < 37 := by rcases hl with h | h | h <;> omega
      intro e
      unfold gp at e
      split at e <;> omega
    simp only
    rw [ccell_congr (lv37 hl) (lv0 hl) (fun F j e => hs F j (by rw [e]; intro q; exact hk (Prod.mk.inj q).1)) (fun F j e => ho F j (by rw [e]; intro q; exact hk (Prod.mk.inj q).1))]
theorem cp_pc (hY : zok g A z P S) {k i : Nat} {e : xE} (hl : lv z P S k i) (h2 : ccell A z s' o' k i = e) (h3 : ∀ k2 i2, lv z P S k2 i2 → ¬ (k2 = k ∧ i2 = i) → ccell A z s' o' k2 i2 = ccell A z s o k2 i2) : xpc (cp A z s o) (ad A z k i) e = cp A z s' o' := by
  refine cp_ext rfl rfl (fun a => ?_)
  simp only [xpc]
  by_cases ea : a = ad A z k i
  · subst ea
    rw [if_pos rfl, cp_at hY hl, h2]
  · rw [if_neg ea]
    simp only [cp]
    cases hr : z.1.1 a with
    | none => rfl
    | some r =>
      obtain ⟨q1, q2⟩ := hY.2.1 a r.1 r.2 hr
      simp only
      rw [h3 _ _ q1 (by rintro ⟨x, y⟩; rw [x, y] at q2; exact ea q2)]
theorem cp_pf (hY : zok g A z P S) {k i f c : Nat} {vs : List Value} {w : Value} (hl : lv z P S k i) (h1 : ccell A z s o k i = .inl (c, oF vs)) (hf : f < vs.length) (h2 : ccell A z s' o' k i = .inl (c, oF (vs.set f w))) (h3 : ∀ k2 i2, lv z P S k2 i2 → ¬ (k2 = k ∧ i2 = i) → ccell A z s' o' k2 i2 = ccell A z s o k2 i2) : xpf (cp A z s o) (ad A z k i) f w = cp A z s' o' := by
  rw [xpf_eq _ _ ((cp_at hY hl).trans (by rw [h1])), oF_set hf]
  exact cp_pc hY hl h2 h3
theorem cp_pe (hY : zok g A z P S) {k i j t n : Nat} {f : Nat → Value} {w : Value} (hl : lv z P S k i) (h1 : ccell A z s o k i = .inr (t, n, f)) (h2 : ccell A z s' o' k i = .inr (t, n, updV f j w)) (h3 : ∀ k2 i2, lv z P S k2 i2 → ¬ (k2 = k ∧ i2 = i) → ccell A z s' o' k2 i2 = ccell A z s o k2 i2) : xpe (cp A z s o) (ad A z k i) j w = cp A z s' o' := by
  rw [xpe_eq _ _ ((cp_at hY hl).trans (by rw [h1]))]
  exact cp_pc hY hl h2 h3
theorem gp_own {k k2 : Nat} (hk : ¬ (1 ≤ k ∧ k ≤ 12)) (h : gp k2 = k) : k2 = k := by
  unfold gp at h
  split at h <;> omega
theorem oth_s {k i F j : Nat} {v : Int32} (hO : ownS F j = (k, i)) (hk : ¬ (1 ≤ k ∧ k ≤ 12)) : ∀ k2 i2, lv z P S k2 i2 → ¬ (k2 = k ∧ i2 = i) → ccell A z (su s F j v) o k2 i2 = ccell A z s o k2 i2 := by
  intro k2 i2 hl hne
  refine ccell_congr (lv37 hl) (lv0 hl) (fun F2 j2 h2 => ?_) (fun _ _ _ => rfl)
  simp only [su]
  rw [if_neg]
  rintro ⟨rfl, rfl⟩
  rw [hO] at h2
  obtain ⟨q1, q2⟩ := Prod.mk.inj h2
  exact hne ⟨gp_own hk q1.symm, q2.symm⟩
theorem oth_o {k i F j : Nat} {v : Int32} (hO : ownO F j = (k, i)) (hk : ¬ (1 ≤ k ∧ k ≤ 12)) : ∀ k2 i2, lv z P S k2 i2 → ¬ (k2 = k ∧ i2 = i) → ccell A z s (su o F j v) k2 i2 = ccell A z s o k2 i2 := by
  intro k2 i2 hl hne
  refine ccell_congr (lv37 hl) (lv0 hl) (fun _ _ _ => rfl) (fun F2 j2 h2 => ?_)
  simp only [su]
  rw [if_neg]
  rintro ⟨rfl, rfl⟩
  rw [hO] at h2
  obtain ⟨q1, q2⟩ := Prod.mk.inj h2
  exact hne ⟨gp_own hk q1.symm, q2.symm⟩
theorem cp_O (hY : zok g A z P S) {k i c : Nat} {vs : List Value} (hl : lv z P S k i) (h1 : ccell A z s o k i = .inl (c, oF vs)) : xO (cp A z s o) (ad A z k i) c = true := by
  simp [xO, cp_at hY hl, h1]
theorem cp_g (hY : zok g A z P S) {k i c f : Nat} {vs : List Value} {v : Value} (hl : lv z P S k i) (h1 : ccell A z s o k i = .inl (c, oF vs)) (h2 : vs.getD f (.int 0) = v) : xg (cp A z s o) (ad A z k i) f = v := by
  simp only [xg, cp_at hY hl, h1]
  exact h2
theorem cp_A (hY : zok g A z P S) {k i t n : Nat} {f : Nat → Value} (hl : lv z P S k i) (h1 : ccell A z s o k i = .inr (t, n, f)) : xA (cp A z s o) (ad A z k i) t = true := by
  simp [xA, cp_at hY hl, h1]
theorem cp_l (hY : zok g A z P S) {k i t n : Nat} {f : Nat → Value} (hl : lv z P S k i) (h1 : ccell A z s o k i = .inr (t, n, f)) : xl (cp A z s o) (ad A z k i) = n := by
  simp [xl, cp_at hY hl, h1]
theorem cp_e (hY : zok g A z P S) {k i t n j : Nat} {f : Nat → Value} {v : Value} (hl : lv z P S k i) (h1 : ccell A z s o k i = .inr (t, n, f)) (h2 : f j = v) : xe (cp A z s o) (ad A z k i) j = v := by
  simp only [xe, cp_at hY hl, h1]
  exact h2
theorem lvF (k : Nat) (hk : k < 26) (h7 : ¬ (7 ≤ k ∧ k ≤ 12)) : lv z P S k 0 := Or.inl ⟨hk, rfl, fun a b => absurd ⟨a, b⟩ h7⟩
theorem lvP {i : Nat} (k : Nat) (h1 : 30 ≤ k) (h2 : k ≤ 33) (hi : i < P) : lv z P S k i := Or.inr (Or.inl ⟨h1, h2, hi⟩)
theorem lvS {i : Nat} (k : Nat) (h1 : 34 ≤ k) (h2 : k ≤ 36) (hi : i < S) : lv z P S k i := Or.inr (Or.inr ⟨h1, h2, hi⟩)
theorem rP_n : rP A (-1) = .null := rfl
theorem rS_n : rS A (-1) = .null := rfl
theorem nI_nm1 {p : Nat} (h : p < 2 ^ 31) : ¬ nI p = -1 := by
  intro e
  have h1 := nI_pos h
  rw [e] at h1
  exact h1 (by decide)
theorem rP_r {p : Nat} (h : p < 2 ^ 31) : rP A (nI p) = .ref (A 30 p) := by
  simp only [rP, nI_nm1 h, if_false, nI_clamp h]
theorem rS_r {p : Nat} (h : p < 2 ^ 31) : rS A (nI p) = .ref (A 34 p) := by
  simp only [rS, nI_nm1 h, if_false, nI_clamp h]
theorem xrd_rP (v : Int32) : xrd (rP A v) = true := by unfold rP; split <;> rfl
theorem xrd_rS (v : Int32) : xrd (rS A v) = true := by unfold rS; split <;> rfl
theorem xfit_rP (v : Int32) : xfit 2 (rP A v) = true := by unfold rP; split <;> rfl
theorem xfit_rS (v : Int32) : xfit 2 (rS A v) = true := by unfold rS; split <;> rfl
theorem xcat_rP (v : Int32) : (rP A v).category = 1 := by unfold rP; split <;> rfl
theorem xcat_rS (v : Int32) : (rS A v).category = 1 := by unfold rS; split <;> rfl
theorem hb_0 (hY : zok g A z P S) : g.1 ≤ A 0 0 := (hY.1 0 0 (lvF 0 (by decide) (by decide))).2.1
theorem cO_0 (hY : zok g A z P S) : xO (cp A z s o) (A 0 0) 10 = true := cp_O hY (lvF 0 (by decide) (by decide)) rfl
theorem cg_0_0 (hY : zok g A z P S) : xg (cp A z s o) (A 0 0) 0 = .ref (A 1 0) := cp_g hY (lvF 0 (by decide) (by decide)) rfl rfl
theorem cg_0_1 (hY : zok g A z P S) : xg (cp A z s o) (A 0 0) 1 = .ref (A 2 0) := cp_g hY (lvF 0 (by decide) (by decide)) rfl rfl
theorem cg_0_2 (hY : zok g A z P S) : xg (cp A z s o) (A 0 0) 2 = .ref (A 3 0) := cp_g hY (lvF 0 (by decide) (by decide)) rfl rfl
theorem cg_0_3 (hY : zok g A z P S) : xg (cp A z s o) (A 0 0) 3 = .ref (A 13 0) := cp_g hY (lvF 0 (by decide) (by decide)) rfl rfl
theorem cg_0_4 (hY : zok g A z P S) : xg (cp A z s o) (A 0 0) 4 = .ref (A 16 0) := cp_g hY (lvF 0 (by decide) (by decide)) rfl rfl
theorem cg_0_5 (hY : zok g A z P S) : xg (cp A z s o) (A 0 0) 5 = .ref (A 18 0) := cp_g hY (lvF 0 (by decide) (by decide)) rfl rfl
theorem cg_0_6 (hY : zok g A z P S) : xg (cp A z s o) (A 0 0) 6 = .ref (A 19 0) := cp_g hY (lvF 0 (by decide) (by decide)) rfl rfl
theorem cg_0_7 (hY : zok g A z P S) : xg (cp A z s o) (A 0 0) 7 = .ref (A 20 0) := cp_g hY (lvF 0 (by decide) (by decide)) rfl rfl
theorem cg_0_8 (hY : zok g A z P S) : xg (cp A z s o) (A 0 0) 8 = .ref (A 21 0) := cp_g hY (lvF 0 (by decide) (by decide)) rfl rfl
theorem cg_0_9 (hY : zok g A z P S) : xg (cp A z s o) (A 0 0) 9 = .ref (A 22 0) := cp_g hY (lvF 0 (by decide) (by decide)) rfl rfl
theorem cg_0_10 (hY : zok g A z P S) : xg (cp A z s o) (A 0 0) 10 = .int (s 1 0) := cp_g hY (lvF 0 (by decide) (by decide)) rfl rfl
theorem cw_0_10 (hY : zok g A z P S) (v : Int32) : xpf (cp A z s o) (A 0 0) 10 (.int v) = cp A z (su s 1 0 v) o := cp_pf hY (lvF 0 (by decide) (by decide)) rfl (by simp) (by simp [ccell, su]) (oth_s rfl (by decide))
theorem cg_0_11 (hY : zok g A z P S) : xg (cp A z s o) (A 0 0) 11 = .int (s 40 0) := cp_g hY (lvF 0 (by decide) (by decide)) rfl rfl
theorem cw_0_11 (hY : zok g A z P S) (v : Int32) : xpf (cp A z s o) (A 0 0) 11 (.int v) = cp A z (su s 40 0 v) o := cp_pf hY (lvF 0 (by decide) (by decide)) rfl (by simp) (by simp [ccell, su]) (oth_s rfl (by decide))
theorem cg_0_12 (hY : zok g A z P S) : xg (cp A z s o) (A 0 0) 12 = .int (s 49 0) := cp_g hY (lvF 0 (by decide) (by decide)) rfl rfl
theorem cw_0_12 (hY : zok g A z P S) (v : Int32) : xpf (cp A z s o) (A 0 0) 12 (.int v) = cp A z (su s 49 0 v) o := cp_pf hY (lvF 0 (by decide) (by decide)) rfl (by simp) (by simp [ccell, su]) (oth_s rfl (by decide))
theorem cg_0_13 (hY : zok g A z P S) : xg (cp A z s o) (A 0 0) 13 = .int (s 48 0) := cp_g hY (lvF 0 (by decide) (by decide)) rfl rfl
theorem cw_0_13 (hY : zok g A z P S) (v : Int32) : xpf (cp A z s o) (A 0 0) 13 (.int v) = cp A z (su s 48 0 v) o := cp_pf hY (lvF 0 (by decide) (by decide)) rfl (by simp) (by simp [ccell, su]) (oth_s rfl (by decide))
theorem cg_0_14 (hY : zok g A z P S) : xg (cp A z s o) (A 0 0) 14 = .int (o 60 0) := cp_g hY (lvF 0 (by decide) (by decide)) rfl rfl
theorem cw_0_14 (hY : zok g A z P S) (v : Int32) : xpf (cp A z s o) (A 0 0) 14 (.int v) = cp A z s (su o 60 0 v) := cp_pf hY (lvF 0 (by decide) (by decide)) rfl (by simp) (by simp [ccell, su]) (oth_o rfl (by decide))
theorem hb_1 (hY : zok g A z P S) : g.1 ≤ A 1 0 := (hY.1 1 0 (lvF 1 (by decide) (by decide))).2.1
theorem cO_1 (hY : zok g A z P S) : xO (cp A z s o) (A 1 0) 0 = true := cp_O hY (lvF 1 (by decide) (by decide)) rfl
theorem cg_1_0 (hY : zok g A z P S) : xg (cp A z s o) (A 1 0) 0 = .int (o 63 0) := cp_g hY (lvF 1 (by decide) (by decide)) rfl rfl
theorem cg_1_1 (hY : zok g A z P S) : xg (cp A z s o) (A 1 0) 1 = .ref (z.1.2.1 0) := cp_g hY (lvF 1 (by decide) (by decide)) rfl rfl
theorem cg_1_2 (hY : zok g A z P S) : xg (cp A z s o) (A 1 0) 2 = .int (sz s o 0) := cp_g hY (lvF 1 (by decide) (by decide)) rfl rfl
theorem hb_2 (hY : zok g A z P S) : g.1 ≤ A 2 0 := (hY.1 2 0 (lvF 2 (by decide) (by decide))).2.1
theorem cO_2 (hY : zok g A z P S) : xO (cp A z s o) (A 2 0) 0 = true := cp_O hY (lvF 2 (by decide) (by decide)) rfl
theorem cg_2_0 (hY : zok g A z P S) : xg (cp A z s o) (A 2 0) 0 = .int (o 63 1) := cp_g hY (lvF 2 (by decide) (by decide)) rfl rfl
theorem cg_2_1 (hY : zok g A z P S) : xg (cp A z s o) (A 2 0) 1 = .ref (z.1.2.1 1) := cp_g hY (lvF 2 (by decide) (by decide)) rfl rfl
theorem cg_2_2 (hY : zok g A z P S) : xg (cp A z s o) (A 2 0) 2 = .int (sz s o 1) := cp_g hY (lvF 2 (by decide) (by decide)) rfl rfl
theorem hb_3 (hY : zok g A z P S) : g.1 ≤ A 3 0 := (hY.1 3 0 (lvF 3 (by decide) (by decide))).2.1
theorem cO_3 (hY : zok g A z P S) : xO (cp A z s o) (A 3 0) 0 = true := cp_O hY (lvF 3 (by decide) (by decide)) rfl
theorem cg_3_0 (hY : zok g A z P S) : xg (cp A z s o) (A 3 0) 0 = .int (o 63 2) := cp_g hY (lvF 3 (by decide) (by decide)) rfl rfl
theorem cg_3_1 (hY : zok g A z P S) : xg (cp A z s o) (A 3 0) 1 = .ref (z.1.2.1 2) := cp_g hY (lvF 3 (by decide) (by decide)) rfl rfl
theorem cg_3_2 (hY : zok g A z P S) : xg (cp A z s o) (A 3 0) 2 = .int (sz s o 2) := cp_g hY (lvF 3 (by decide) (by decide)) rfl rfl
theorem hb_4 (hY : zok g A z P S) : g.1 ≤ A 4 0 := (hY.1 4 0 (lvF 4 (by decide) (by decide))).2.1
theorem cO_4 (hY : zok g A z P S) : xO (cp A z s o) (A 4 0) 0 = true := cp_O hY (lvF 4 (by decide) (by decide)) rfl
theorem cg_4_0 (hY : zok g A z P S) : xg (cp A z s o) (A 4 0) 0 = .int (o 63 3) := cp_g hY (lvF 4 (by decide) (by decide)) rfl rfl
theorem cg_4_1 (hY : zok g A z P S) : xg (cp A z s o) (A 4 0) 1 = .ref (z.1.2.1 3) := cp_g hY (lvF 4 (by decide) (by decide)) rfl rfl
theorem cg_4_2 (hY : zok g A z P S) : xg (cp A z s o) (A 4 0) 2 = .int (sz s o 3) := cp_g hY (lvF 4 (by decide) (by decide)) rfl rfl
theorem hb_5 (hY : zok g A z P S) : g.1 ≤ A 5 0 := (hY.1 5 0 (lvF 5 (by decide) (by decide))).2.1
theorem cO_5 (hY : zok g A z P S) : xO (cp A z s o) (A 5 0) 0 = true := cp_O hY (lvF 5 (by decide) (by decide)) rfl
theorem cg_5_0 (hY : zok g A z P S) : xg (cp A z s o) (A 5 0) 0 = .int (o 63 4) := cp_g hY (lvF 5 (by decide) (by decide)) rfl rfl
theorem cg_5_1 (hY : zok g A z P S) : xg (cp A z s o) (A 5 0) 1 = .ref (z.1.2.1 4) := cp_g hY (lvF 5 (by decide) (by decide)) rfl rfl
theorem cg_5_2 (hY : zok g A z P S) : xg (cp A z s o) (A 5 0) 2 = .int (sz s o 4) := cp_g hY (lvF 5 (by decide) (by decide)) rfl rfl
theorem hb_6 (hY : zok g A z P S) : g.1 ≤ A 6 0 := (hY.1 6 0 (lvF 6 (by decide) (by decide))).2.1
theorem cO_6 (hY : zok g A z P S) : xO (cp A z s o) (A 6 0) 0 = true := cp_O hY (lvF 6 (by decide) (by decide)) rfl
theorem cg_6_0 (hY : zok g A z P S) : xg (cp A z s o) (A 6 0) 0 = .int (o 63 5) := cp_g hY (lvF 6 (by decide) (by decide)) rfl rfl
theorem cg_6_1 (hY : zok g A z P S) : xg (cp A z s o) (A 6 0) 1 = .ref (z.1.2.1 5) := cp_g hY (lvF 6 (by decide) (by decide)) rfl rfl
theorem cg_6_2 (hY : zok g A z P S) : xg (cp A z s o) (A 6 0) 2 = .int (sz s o 5) := cp_g hY (lvF 6 (by decide) (by decide)) rfl rfl
theorem hb_13 (hY : zok g A z P S) : g.1 ≤ A 13 0 := (hY.1 13 0 (lvF 13 (by decide) (by decide))).2.1
theorem cO_13 (hY : zok g A z P S) : xO (cp A z s o) (A 13 0) 8 = true := cp_O hY (lvF 13 (by decide) (by decide)) rfl
theorem cg_13_0 (hY : zok g A z P S) : xg (cp A z s o) (A 13 0) 0 = .ref (A 14 0) := cp_g hY (lvF 13 (by decide) (by decide)) rfl rfl
theorem cg_13_1 (hY : zok g A z P S) : xg (cp A z s o) (A 13 0) 1 = .ref (A 15 0) := cp_g hY (lvF 13 (by decide) (by decide)) rfl rfl
theorem hb_14 (hY : zok g A z P S) : g.1 ≤ A 14 0 := (hY.1 14 0 (lvF 14 (by decide) (by decide))).2.1
theorem cc_at_14 (hY : zok g A z P S) : (cp A z s o).2.2 (A 14 0) = some (.inr (0, 9600, fun j => .int (s 34 j))) := cp_at hY (lvF 14 (by decide) (by decide))
theorem cA_14 (hY : zok g A z P S) : xA (cp A z s o) (A 14 0) 0 = true := cp_A hY (lvF 14 (by decide) (by decide)) rfl
theorem cl_14 (hY : zok g A z P S) : xl (cp A z s o) (A 14 0) = 9600 := cp_l hY (lvF 14 (by decide) (by decide)) rfl
theorem ce_14 (hY : zok g A z P S) (j : Nat) : xe (cp A z s o) (A 14 0) j = .int (s 34 j) := cp_e hY (lvF 14 (by decide) (by decide)) rfl rfl
theorem cw_14 (hY : zok g A z P S) (j : Nat) (v : Int32) : xpe (cp A z s o) (A 14 0) j (.int v) = cp A z (su s 34 j v) o := cp_pe hY (lvF 14 (by decide) (by decide)) rfl (by simp only [ccell]; congr 3; funext j2; simp only [updV, su]; by_cases e : j2 = j <;> simp [e]) (oth_s rfl (by decide))
theorem hb_15 (hY : zok g A z P S) : g.1 ≤ A 15 0 := (hY.1 15 0 (lvF 15 (by decide) (by decide))).2.1
theorem cc_at_15 (hY : zok g A z P S) : (cp A z s o).2.2 (A 15 0) = some (.inr (0, 400, fun j => .int (s 35 j))) := cp_at hY (lvF 15 (by decide) (by decide))
theorem cA_15 (hY : zok g A z P S) : xA (cp A z s o) (A 15 0) 0 = true := cp_A hY (lvF 15 (by decide) (by decide)) rfl
theorem cl_15 (hY : zok g A z P S) : xl (cp A z s o) (A 15 0) = 400 := cp_l hY (lvF 15 (by decide) (by decide)) rfl
theorem ce_15 (hY : zok g A z P S) (j : Nat) : xe (cp A z s o) (A 15 0) j = .int (s 35 j) := cp_e hY (lvF 15 (by decide) (by decide)) rfl rfl
theorem cw_15 (hY : zok g A z P S) (j : Nat) (v : Int32) : xpe (cp A z s o) (A 15 0) j (.int v) = cp A z (su s 35 j v) o := cp_pe hY (lvF 15 (by decide) (by decide)) rfl (by simp only [ccell]; congr 3; funext j2; simp only [updV, su]; by_cases e : j2 = j <;> simp [e]) (oth_s rfl (by decide))
theorem hb_16 (hY : zok g A z P S) : g.1 ≤ A 16 0 := (hY.1 16 0 (lvF 16 (by decide) (by decide))).2.1
theorem cO_16 (hY : zok g A z P S) : xO (cp A z s o) (A 16 0) 2 = true := cp_O hY (lvF 16 (by decide) (by decide)) rfl
theorem cg_16_0 (hY : zok g A z P S) : xg (cp A z s o) (A 16 0) 0 = .ref (A 17 0) := cp_g hY (lvF 16 (by decide) (by decide)) rfl rfl
theorem cg_16_1 (hY : zok g A z P S) : xg (cp A z s o) (A 16 0) 1 = .int (s 37 0) := cp_g hY (lvF 16 (by decide) (by decide)) rfl rfl
theorem cw_16_1 (hY : zok g A z P S) (v : Int32) : xpf (cp A z s o) (A 16 0) 1 (.int v) = cp A z (su s 37 0 v) o := cp_pf hY (lvF 16 (by decide) (by decide)) rfl (by simp) (by simp [ccell, su]) (oth_s rfl (by decide))
theorem hb_17 (hY : zok g A z P S) : g.1 ≤ A 17 0 := (hY.1 17 0 (lvF 17 (by decide) (by decide))).2.1
theorem cc_at_17 (hY : zok g A z P S) : (cp A z s o).2.2 (A 17 0) = some (.inr (0, 24, fun j => .int (o 62 j))) := cp_at hY (lvF 17 (by decide) (by decide))
theorem cA_17 (hY : zok g A z P S) : xA (cp A z s o) (A 17 0) 0 = true := cp_A hY (lvF 17 (by decide) (by decide)) rfl
theorem cl_17 (hY : zok g A z P S) : xl (cp A z s o) (A 17 0) = 24 := cp_l hY (lvF 17 (by decide) (by decide)) rfl
theorem ce_17 (hY : zok g A z P S) (j : Nat) : xe (cp A z s o) (A 17 0) j = .int (o 62 j) := cp_e hY (lvF 17 (by decide) (by decide)) rfl rfl
theorem cw_17 (hY : zok g A z P S) (j : Nat) (v : Int32) : xpe (cp A z s o) (A 17 0) j (.int v) = cp A z s (su o 62 j v) := cp_pe hY (lvF 17 (by decide) (by decide)) rfl (by simp only [ccell]; congr 3; funext j2; simp only [updV, su]; by_cases e : j2 = j <;> simp [e]) (oth_o rfl (by decide))
theorem hb_18 (hY : zok g A z P S) : g.1 ≤ A 18 0 := (hY.1 18 0 (lvF 18 (by decide) (by decide))).2.1
theorem cO_18 (hY : zok g A z P S) : xO (cp A z s o) (A 18 0) 5 = true := cp_O hY (lvF 18 (by decide) (by decide)) rfl
theorem cg_18_0 (hY : zok g A z P S) : xg (cp A z s o) (A 18 0) 0 = .int (s 41 0) := cp_g hY (lvF 18 (by decide) (by decide)) rfl rfl
theorem cw_18_0 (hY : zok g A z P S) (v : Int32) : xpf (cp A z s o) (A 18 0) 0 (.int v) = cp A z (su s 41 0 v) o := cp_pf hY (lvF 18 (by decide) (by decide)) rfl (by simp) (by simp [ccell, su]) (oth_s rfl (by decide))
theorem cg_18_1 (hY : zok g A z P S) : xg (cp A z s o) (A 18 0) 1 = .int (s 42 0) := cp_g hY (lvF 18 (by decide) (by decide)) rfl rfl
theorem cw_18_1 (hY : zok g A z P S) (v : Int32) : xpf (cp A z s o) (A 18 0) 1 (.int v) = cp A z (su s 42 0 v) o := cp_pf hY (lvF 18 (by decide) (by decide)) rfl (by simp) (by simp [ccell, su]) (oth_s rfl (by decide))
theorem cg_18_2 (hY : zok g A z P S) : xg (cp A z s o) (A 18 0) 2 = .int (s 43 0) := cp_g hY (lvF 18 (by decide) (by decide)) rfl rfl
theorem cw_18_2 (hY : zok g A z P S) (v : Int32) : xpf (cp A z s o) (A 18 0) 2 (.int v) = cp A z (su s 43 0 v) o := cp_pf hY (lvF 18 (by decide) (by decide)) rfl (by simp) (by simp [ccell, su]) (oth_s rfl (by decide))
theorem hb_19 (hY : zok g A z P S) : g.1 ≤ A 19 0 := (hY.1 19 0 (lvF 19 (by decide) (by decide))).2.1
theorem cO_19 (hY : zok g A z P S) : xO (cp A z s o) (A 19 0) 6 = true := cp_O hY (lvF 19 (by decide) (by decide)) rfl
theorem cg_19_0 (hY : zok g A z P S) : xg (cp A z s o) (A 19 0) 0 = .ref (A 4 0) := cp_g hY (lvF 19 (by decide) (by decide)) rfl rfl
theorem hb_20 (hY : zok g A z P S) : g.1 ≤ A 20 0 := (hY.1 20 0 (lvF 20 (by decide) (by decide))).2.1
theorem cO_20 (hY : zok g A z P S) : xO (cp A z s o) (A 20 0) 6 = true := cp_O hY (lvF 20 (by decide) (by decide)) rfl
theorem cg_20_0 (hY : zok g A z P S) : xg (cp A z s o) (A 20 0) 0 = .ref (A 5 0) := cp_g hY (lvF 20 (by decide) (by decide)) rfl rfl
theorem hb_21 (hY : zok g A z P S) : g.1 ≤ A 21 0 := (hY.1 21 0 (lvF 21 (by decide) (by decide))).2.1
theorem cO_21 (hY : zok g A z P S) : xO (cp A z s o) (A 21 0) 6 = true := cp_O hY (lvF 21 (by decide) (by decide)) rfl
theorem cg_21_0 (hY : zok g A z P S) : xg (cp A z s o) (A 21 0) 0 = .ref (A 6 0) := cp_g hY (lvF 21 (by decide) (by decide)) rfl rfl
theorem hb_22 (hY : zok g A z P S) : g.1 ≤ A 22 0 := (hY.1 22 0 (lvF 22 (by decide) (by decide))).2.1
theorem cO_22 (hY : zok g A z P S) : xO (cp A z s o) (A 22 0) 1 = true := cp_O hY (lvF 22 (by decide) (by decide)) rfl
theorem cg_22_0 (hY : zok g A z P S) : xg (cp A z s o) (A 22 0) 0 = .ref (A 23 0) := cp_g hY (lvF 22 (by decide) (by decide)) rfl rfl
theorem cg_22_1 (hY : zok g A z P S) : xg (cp A z s o) (A 22 0) 1 = .ref (A 24 0) := cp_g hY (lvF 22 (by decide) (by decide)) rfl rfl
theorem cg_22_2 (hY : zok g A z P S) : xg (cp A z s o) (A 22 0) 2 = .ref (A 25 0) := cp_g hY (lvF 22 (by decide) (by decide)) rfl rfl
theorem cg_22_3 (hY : zok g A z P S) : xg (cp A z s o) (A 22 0) 3 = .int (s 47 0) := cp_g hY (lvF 22 (by decide) (by decide)) rfl rfl
theorem cw_22_3 (hY : zok g A z P S) (v : Int32) : xpf (cp A z s o) (A 22 0) 3 (.int v) = cp A z (su s 47 0 v) o := cp_pf hY (lvF 22 (by decide) (by decide)) rfl (by simp) (by simp [ccell, su]) (oth_s rfl (by decide))
theorem hb_23 (hY : zok g A z P S) : g.1 ≤ A 23 0 := (hY.1 23 0 (lvF 23 (by decide) (by decide))).2.1
theorem cc_at_23 (hY : zok g A z P S) : (cp A z s o).2.2 (A 23 0) = some (.inr (0, 300, fun j => .int (s 44 j))) := cp_at hY (lvF 23 (by decide) (by decide))
theorem cA_23 (hY : zok g A z P S) : xA (cp A z s o) (A 23 0) 0 = true := cp_A hY (lvF 23 (by decide) (by decide)) rfl
theorem cl_23 (hY : zok g A z P S) : xl (cp A z s o) (A 23 0) = 300 := cp_l hY (lvF 23 (by decide) (by decide)) rfl
theorem ce_23 (hY : zok g A z P S) (j : Nat) : xe (cp A z s o) (A 23 0) j = .int (s 44 j) := cp_e hY (lvF 23 (by decide) (by decide)) rfl rfl
theorem cw_23 (hY : zok g A z P S) (j : Nat) (v : Int32) : xpe (cp A z s o) (A 23 0) j (.int v) = cp A z (su s 44 j v) o := cp_pe hY (lvF 23 (by decide) (by decide)) rfl (by simp only [ccell]; congr 3; funext j2; simp only [updV, su]; by_cases e : j2 = j <;> simp [e]) (oth_s rfl (by decide))
theorem hb_24 (hY : zok g A z P S) : g.1 ≤ A 24 0 := (hY.1 24 0 (lvF 24 (by decide) (by decide))).2.1
theorem cc_at_24 (hY : zok g A z P S) : (cp A z s o).2.2 (A 24 0) = some (.inr (0, 300, fun j => .int (s 45 j))) := cp_at hY (lvF 24 (by decide) (by decide))
theorem cA_24 (hY : zok g A z P S) : xA (cp A z s o) (A 24 0) 0 = true := cp_A hY (lvF 24 (by decide) (by decide)) rfl
theorem cl_24 (hY : zok g A z P S) : xl (cp A z s o) (A 24 0) = 300 := cp_l hY (lvF 24 (by decide) (by decide)) rfl
theorem ce_24 (hY : zok g A z P S) (j : Nat) : xe (cp A z s o) (A 24 0) j = .int (s 45 j) := cp_e hY (lvF 24 (by decide) (by decide)) rfl rfl
theorem cw_24 (hY : zok g A z P S) (j : Nat) (v : Int32) : xpe (cp A z s o) (A 24 0) j (.int v) = cp A z (su s 45 j v) o := cp_pe hY (lvF 24 (by decide) (by decide)) rfl (by simp only [ccell]; congr 3; funext j2; simp only [updV, su]; by_cases e : j2 = j <;> simp [e]) (oth_s rfl (by decide))
theorem hb_25 (hY : zok g A z P S) : g.1 ≤ A 25 0 := (hY.1 25 0 (lvF 25 (by decide) (by decide))).2.1
theorem cc_at_25 (hY : zok g A z P S) : (cp A z s o).2.2 (A 25 0) = some (.inr (0, 300, fun j => .int (s 46 j))) := cp_at hY (lvF 25 (by decide) (by decide))
theorem cA_25 (hY : zok g A z P S) : xA (cp A z s o) (A 25 0) 0 = true := cp_A hY (lvF 25 (by decide) (by decide)) rfl
theorem cl_25 (hY : zok g A z P S) : xl (cp A z s o) (A 25 0) = 300 := cp_l hY (lvF 25 (by decide) (by decide)) rfl
theorem ce_25 (hY : zok g A z P S) (j : Nat) : xe (cp A z s o) (A 25 0) j = .int (s 46 j) := cp_e hY (lvF 25 (by decide) (by decide)) rfl rfl
theorem cw_25 (hY : zok g A z P S) (j : Nat) (v : Int32) : xpe (cp A z s o) (A 25 0) j (.int v) = cp A z (su s 46 j v) o := cp_pe hY (lvF 25 (by decide) (by decide)) rfl (by simp only [ccell]; congr 3; funext j2; simp only [updV, su]; by_cases e : j2 = j <;> simp [e]) (oth_s rfl (by decide))
theorem hb_30 (hY : zok g A z P S) {i : Nat} (hi : i < P) : g.1 ≤ A 30 i := (hY.1 30 i (lvP 30 (by decide) (by decide) hi)).2.1
theorem cO_30 (hY : zok g A z P S) {i : Nat} (hi : i < P) : xO (cp A z s o) (A 30 i) 4 = true := cp_O hY (lvP 30 (by decide) (by decide) hi) rfl
theorem cg_30_0 (hY : zok g A z P S) {i : Nat} (hi : i < P) : xg (cp A z s o) (A 30 i) 0 = .int (nI i) := cp_g hY (lvP 30 (by decide) (by decide) hi) rfl rfl
theorem cg_30_1 (hY : zok g A z P S) {i : Nat} (hi : i < P) : xg (cp A z s o) (A 30 i) 1 = .int (s 3 i) := cp_g hY (lvP 30 (by decide) (by decide) hi) rfl rfl
theorem cw_30_1 (hY : zok g A z P S) {i : Nat} (hi : i < P) (v : Int32) : xpf (cp A z s o) (A 30 i) 1 (.int v) = cp A z (su s 3 i v) o := cp_pf hY (lvP 30 (by decide) (by decide) hi) rfl (by simp) (by simp [ccell, su]) (oth_s rfl (by decide))
theorem cg_30_2 (hY : zok g A z P S) {i : Nat} (hi : i < P) : xg (cp A z s o) (A 30 i) 2 = .int (s 4 i) := cp_g hY (lvP 30 (by decide) (by decide) hi) rfl rfl
theorem cw_30_2 (hY : zok g A z P S) {i : Nat} (hi : i < P) (v : Int32) : xpf (cp A z s o) (A 30 i) 2 (.int v) = cp A z (su s 4 i v) o := cp_pf hY (lvP 30 (by decide) (by decide) hi) rfl (by simp) (by simp [ccell, su]) (oth_s rfl (by decide))
theorem cg_30_3 (hY : zok g A z P S) {i : Nat} (hi : i < P) : xg (cp A z s o) (A 30 i) 3 = .int (s 5 i) := cp_g hY (lvP 30 (by decide) (by decide) hi) rfl rfl
theorem cw_30_3 (hY : zok g A z P S) {i : Nat} (hi : i < P) (v : Int32) : xpf (cp A z s o) (A 30 i) 3 (.int v) = cp A z (su s 5 i v) o := cp_pf hY (lvP 30 (by decide) (by decide) hi) rfl (by simp) (by simp [ccell, su]) (oth_s rfl (by decide))
theorem cg_30_4 (hY : zok g A z P S) {i : Nat} (hi : i < P) : xg (cp A z s o) (A 30 i) 4 = .ref (A 31 i) := cp_g hY (lvP 30 (by decide) (by decide) hi) rfl rfl
theorem cg_30_5 (hY : zok g A z P S) {i : Nat} (hi : i < P) : xg (cp A z s o) (A 30 i) 5 = .ref (A 32 i) := cp_g hY (lvP 30 (by decide) (by decide) hi) rfl rfl
theorem cg_30_6 (hY : zok g A z P S) {i : Nat} (hi : i < P) : xg (cp A z s o) (A 30 i) 6 = .ref (A 33 i) := cp_g hY (lvP 30 (by decide) (by decide) hi) rfl rfl
theorem cg_30_7 (hY : zok g A z P S) {i : Nat} (hi : i < P) : xg (cp A z s o) (A 30 i) 7 = .int (o 61 i) := cp_g hY (lvP 30 (by decide) (by decide) hi) rfl rfl
theorem cw_30_7 (hY : zok g A z P S) {i : Nat} (hi : i < P) (v : Int32) : xpf (cp A z s o) (A 30 i) 7 (.int v) = cp A z s (su o 61 i v) := cp_pf hY (lvP 30 (by decide) (by decide) hi) rfl (by simp) (by simp [ccell, su]) (oth_o rfl (by decide))
theorem cg_30_8 (hY : zok g A z P S) {i : Nat} (hi : i < P) : xg (cp A z s o) (A 30 i) 8 = .int (s 6 i) := cp_g hY (lvP 30 (by decide) (by decide) hi) rfl rfl
theorem cw_30_8 (hY : zok g A z P S) {i : Nat} (hi : i < P) (v : Int32) : xpf (cp A z s o) (A 30 i) 8 (.int v) = cp A z (su s 6 i v) o := cp_pf hY (lvP 30 (by decide) (by decide) hi) rfl (by simp) (by simp [ccell, su]) (oth_s rfl (by decide))
theorem hb_31 (hY : zok g A z P S) {i : Nat} (hi : i < P) : g.1 ≤ A 31 i := (hY.1 31 i (lvP 31 (by decide) (by decide) hi)).2.1
theorem cO_31 (hY : zok g A z P S) {i : Nat} (hi : i < P) : xO (cp A z s o) (A 31 i) 3 = true := cp_O hY (lvP 31 (by decide) (by decide) hi) rfl
theorem cg_31_0 (hY : zok g A z P S) {i : Nat} (hi : i < P) : xg (cp A z s o) (A 31 i) 0 = .int (s 8 i) := cp_g hY (lvP 31 (by decide) (by decide) hi) rfl rfl
theorem cw_31_0 (hY : zok g A z P S) {i : Nat} (hi : i < P) (v : Int32) : xpf (cp A z s o) (A 31 i) 0 (.int v) = cp A z (su s 8 i v) o := cp_pf hY (lvP 31 (by decide) (by decide) hi) rfl (by simp) (by simp [ccell, su]) (oth_s rfl (by decide))
theorem cg_31_1 (hY : zok g A z P S) {i : Nat} (hi : i < P) : xg (cp A z s o) (A 31 i) 1 = .int (o 64 i) := cp_g hY (lvP 31 (by decide) (by decide) hi) rfl rfl
theorem cw_31_1 (hY : zok g A z P S) {i : Nat} (hi : i < P) (v : Int32) : xpf (cp A z s o) (A 31 i) 1 (.int v) = cp A z s (su o 64 i v) := cp_pf hY (lvP 31 (by decide) (by decide) hi) rfl (by simp) (by simp [ccell, su]) (oth_o rfl (by decide))
theorem cg_31_2 (hY : zok g A z P S) {i : Nat} (hi : i < P) : xg (cp A z s o) (A 31 i) 2 = .int (o 65 i) := cp_g hY (lvP 31 (by decide) (by decide) hi) rfl rfl
theorem cw_31_2 (hY : zok g A z P S) {i : Nat} (hi : i < P) (v : Int32) : xpf (cp A z s o) (A 31 i) 2 (.int v) = cp A z s (su o 65 i v) := cp_pf hY (lvP 31 (by decide) (by decide) hi) rfl (by simp) (by simp [ccell, su]) (oth_o rfl (by decide))
theorem cg_31_3 (hY : zok g A z P S) {i : Nat} (hi : i < P) : xg (cp A z s o) (A 31 i) 3 = .int (s 10 i) := cp_g hY (lvP 31 (by decide) (by decide) hi) rfl rfl
theorem cw_31_3 (hY : zok g A z P S) {i : Nat} (hi : i < P) (v : Int32) : xpf (cp A z s o) (A 31 i) 3 (.int v) = cp A z (su s 10 i v) o := cp_pf hY (lvP 31 (by decide) (by decide) hi) rfl (by simp) (by simp [ccell, su]) (oth_s rfl (by decide))
theorem cg_31_4 (hY : zok g A z P S) {i : Nat} (hi : i < P) : xg (cp A z s o) (A 31 i) 4 = .int (s 15 i) := cp_g hY (lvP 31 (by decide) (by decide) hi) rfl rfl
theorem cw_31_4 (hY : zok g A z P S) {i : Nat} (hi : i < P) (v : Int32) : xpf (cp A z s o) (A 31 i) 4 (.int v) = cp A z (su s 15 i v) o := cp_pf hY (lvP 31 (by decide) (by decide) hi) rfl (by simp) (by simp [ccell, su]) (oth_s rfl (by decide))
theorem cg_31_5 (hY : zok g A z P S) {i : Nat} (hi : i < P) : xg (cp A z s o) (A 31 i) 5 = .int (s 11 i) := cp_g hY (lvP 31 (by decide) (by decide) hi) rfl rfl
theorem cw_31_5 (hY : zok g A z P S) {i : Nat} (hi : i < P) (v : Int32) : xpf (cp A z s o) (A 31 i) 5 (.int v) = cp A z (su s 11 i v) o := cp_pf hY (lvP 31 (by decide) (by decide) hi) rfl (by simp) (by simp [ccell, su]) (oth_s rfl (by decide))
theorem cg_31_6 (hY : zok g A z P S) {i : Nat} (hi : i < P) : xg (cp A z s o) (A 31 i) 6 = .int (s 12 i) := cp_g hY (lvP 31 (by decide) (by decide) hi) rfl rfl
theorem cw_31_6 (hY : zok g A z P S) {i : Nat} (hi : i < P) (v : Int32) : xpf (cp A z s o) (A 31 i) 6 (.int v) = cp A z (su s 12 i v) o := cp_pf hY (lvP 31 (by decide) (by decide) hi) rfl (by simp) (by simp [ccell, su]) (oth_s rfl (by decide))
theorem cg_31_7 (hY : zok g A z P S) {i : Nat} (hi : i < P) : xg (cp A z s o) (A 31 i) 7 = .int (o 66 i) := cp_g hY (lvP 31 (by decide) (by decide) hi) rfl rfl
theorem cw_31_7 (hY : zok g A z P S) {i : Nat} (hi : i < P) (v : Int32) : xpf (cp A z s o) (A 31 i) 7 (.int v) = cp A z s (su o 66 i v) := cp_pf hY (lvP 31 (by decide) (by decide) hi) rfl (by simp) (by simp [ccell, su]) (oth_o rfl (by decide))
theorem cg_31_8 (hY : zok g A z P S) {i : Nat} (hi : i < P) : xg (cp A z s o) (A 31 i) 8 = rS A (s 13 i) := cp_g hY (lvP 31 (by decide) (by decide) hi) rfl rfl
theorem cw_31_8 (hY : zok g A z P S) {i : Nat} (hi : i < P) (v : Int32) : xpf (cp A z s o) (A 31 i) 8 (rS A v) = cp A z (su s 13 i v) o := cp_pf hY (lvP 31 (by decide) (by decide) hi) rfl (by simp) (by simp [ccell, su]) (oth_s rfl (by decide))
theorem cn_31_8 (hY : zok g A z P S) {i : Nat} (hi : i < P) : xpf (cp A z s o) (A 31 i) 8 .null = cp A z (su s 13 i (-1)) o := cw_31_8 hY hi (-1)
theorem cr_31_8 (hY : zok g A z P S) {i : Nat} (hi : i < P) {p : Nat} (hp : p < 2 ^ 31) : xpf (cp A z s o) (A 31 i) 8 (.ref (A 34 p)) = cp A z (su s 13 i (nI p)) o := by rw [← rS_r hp]; exact cw_31_8 hY hi (nI p)
theorem hb_32 (hY : zok g A z P S) {i : Nat} (hi : i < P) : g.1 ≤ A 32 i := (hY.1 32 i (lvP 32 (by decide) (by decide) hi)).2.1
theorem cO_32 (hY : zok g A z P S) {i : Nat} (hi : i < P) : xO (cp A z s o) (A 32 i) 3 = true := cp_O hY (lvP 32 (by decide) (by decide) hi) rfl
theorem cg_32_0 (hY : zok g A z P S) {i : Nat} (hi : i < P) : xg (cp A z s o) (A 32 i) 0 = .int (o 70 i) := cp_g hY (lvP 32 (by decide) (by decide) hi) rfl rfl
theorem cw_32_0 (hY : zok g A z P S) {i : Nat} (hi : i < P) (v : Int32) : xpf (cp A z s o) (A 32 i) 0 (.int v) = cp A z s (su o 70 i v) := cp_pf hY (lvP 32 (by decide) (by decide) hi) rfl (by simp) (by simp [ccell, su]) (oth_o rfl (by decide))
theorem cg_32_1 (hY : zok g A z P S) {i : Nat} (hi : i < P) : xg (cp A z s o) (A 32 i) 1 = .int (o 71 i) := cp_g hY (lvP 32 (by decide) (by decide) hi) rfl rfl
theorem cw_32_1 (hY : zok g A z P S) {i : Nat} (hi : i < P) (v : Int32) : xpf (cp A z s o) (A 32 i) 1 (.int v) = cp A z s (su o 71 i v) := cp_pf hY (lvP 32 (by decide) (by decide) hi) rfl (by simp) (by simp [ccell, su]) (oth_o rfl (by decide))
theorem cg_32_2 (hY : zok g A z P S) {i : Nat} (hi : i < P) : xg (cp A z s o) (A 32 i) 2 = .int (o 72 i) := cp_g hY (lvP 32 (by decide) (by decide) hi) rfl rfl
theorem cw_32_2 (hY : zok g A z P S) {i : Nat} (hi : i < P) (v : Int32) : xpf (cp A z s o) (A 32 i) 2 (.int v) = cp A z s (su o 72 i v) := cp_pf hY (lvP 32 (by decide) (by decide) hi) rfl (by simp) (by simp [ccell, su]) (oth_o rfl (by decide))
theorem cg_32_3 (hY : zok g A z P S) {i : Nat} (hi : i < P) : xg (cp A z s o) (A 32 i) 3 = .int (o 73 i) := cp_g hY (lvP 32 (by decide) (by decide) hi) rfl rfl
theorem cw_32_3 (hY : zok g A z P S) {i : Nat} (hi : i < P) (v : Int32) : xpf (cp A z s o) (A 32 i) 3 (.int v) = cp A z s (su o 73 i v) := cp_pf hY (lvP 32 (by decide) (by decide) hi) rfl (by simp) (by simp [ccell, su]) (oth_o rfl (by decide))
theorem cg_32_4 (hY : zok g A z P S) {i : Nat} (hi : i < P) : xg (cp A z s o) (A 32 i) 4 = .int (o 74 i) := cp_g hY (lvP 32 (by decide) (by decide) hi) rfl rfl
theorem cw_32_4 (hY : zok g A z P S) {i : Nat} (hi : i < P) (v : Int32) : xpf (cp A z s o) (A 32 i) 4 (.int v) = cp A z s (su o 74 i v) := cp_pf hY (lvP 32 (by decide) (by decide) hi) rfl (by simp) (by simp [ccell, su]) (oth_o rfl (by decide))
theorem cg_32_5 (hY : zok g A z P S) {i : Nat} (hi : i < P) : xg (cp A z s o) (A 32 i) 5 = .int (o 75 i) := cp_g hY (lvP 32 (by decide) (by decide) hi) rfl rfl
theorem cw_32_5 (hY : zok g A z P S) {i : Nat} (hi : i < P) (v : Int32) : xpf (cp A z s o) (A 32 i) 5 (.int v) = cp A z s (su o 75 i v) := cp_pf hY (lvP 32 (by decide) (by decide) hi) rfl (by simp) (by simp [ccell, su]) (oth_o rfl (by decide))
theorem cg_32_6 (hY : zok g A z P S) {i : Nat} (hi : i < P) : xg (cp A z s o) (A 32 i) 6 = .int (o 76 i) := cp_g hY (lvP 32 (by decide) (by decide) hi) rfl rfl
theorem cw_32_6 (hY : zok g A z P S) {i : Nat} (hi : i < P) (v : Int32) : xpf (cp A z s o) (A 32 i) 6 (.int v) = cp A z s (su o 76 i v) := cp_pf hY (lvP 32 (by decide) (by decide) hi) rfl (by simp) (by simp [ccell, su]) (oth_o rfl (by decide))
theorem cg_32_7 (hY : zok g A z P S) {i : Nat} (hi : i < P) : xg (cp A z s o) (A 32 i) 7 = .int (o 77 i) := cp_g hY (lvP 32 (by decide) (by decide) hi) rfl rfl
theorem cw_32_7 (hY : zok g A z P S) {i : Nat} (hi : i < P) (v : Int32) : xpf (cp A z s o) (A 32 i) 7 (.int v) = cp A z s (su o 77 i v) := cp_pf hY (lvP 32 (by decide) (by decide) hi) rfl (by simp) (by simp [ccell, su]) (oth_o rfl (by decide))
theorem cg_32_8 (hY : zok g A z P S) {i : Nat} (hi : i < P) : xg (cp A z s o) (A 32 i) 8 = rS A (o 78 i) := cp_g hY (lvP 32 (by decide) (by decide) hi) rfl rfl
theorem cw_32_8 (hY : zok g A z P S) {i : Nat} (hi : i < P) (v : Int32) : xpf (cp A z s o) (A 32 i) 8 (rS A v) = cp A z s (su o 78 i v) := cp_pf hY (lvP 32 (by decide) (by decide) hi) rfl (by simp) (by simp [ccell, su]) (oth_o rfl (by decide))
theorem cn_32_8 (hY : zok g A z P S) {i : Nat} (hi : i < P) : xpf (cp A z s o) (A 32 i) 8 .null = cp A z s (su o 78 i (-1)) := cw_32_8 hY hi (-1)
theorem cr_32_8 (hY : zok g A z P S) {i : Nat} (hi : i < P) {p : Nat} (hp : p < 2 ^ 31) : xpf (cp A z s o) (A 32 i) 8 (.ref (A 34 p)) = cp A z s (su o 78 i (nI p)) := by rw [← rS_r hp]; exact cw_32_8 hY hi (nI p)
theorem hb_33 (hY : zok g A z P S) {i : Nat} (hi : i < P) : g.1 ≤ A 33 i := (hY.1 33 i (lvP 33 (by decide) (by decide) hi)).2.1
theorem cc_at_33 (hY : zok g A z P S) {i : Nat} (hi : i < P) : (cp A z s o).2.2 (A 33 i) = some (.inr (1, 400, fun d => if d < 400 then .int (s 7 (400 * i + d)) else .int 0)) := cp_at hY (lvP 33 (by decide) (by decide) hi)
theorem cA_33 (hY : zok g A z P S) {i : Nat} (hi : i < P) : xA (cp A z s o) (A 33 i) 1 = true := cp_A hY (lvP 33 (by decide) (by decide) hi) rfl
theorem cl_33 (hY : zok g A z P S) {i : Nat} (hi : i < P) : xl (cp A z s o) (A 33 i) = 400 := cp_l hY (lvP 33 (by decide) (by decide) hi) rfl
theorem ce_33 (hY : zok g A z P S) {i : Nat} (hi : i < P) {d : Nat} (hd : d < 400) : xe (cp A z s o) (A 33 i) d = .int (s 7 (400 * i + d)) := cp_e hY (lvP 33 (by decide) (by decide) hi) rfl (by simp only [hd, if_true])
theorem cw_33 (hY : zok g A z P S) {i : Nat} (hi : i < P) {d : Nat} (hd : d < 400) (v : Int32) : xpe (cp A z s o) (A 33 i) d (.int v) = cp A z (su s 7 (400 * i + d) v) o := cp_pe hY (lvP 33 (by decide) (by decide) hi) rfl (by
    simp only [ccell]
    congr 3
    funext d2
    simp only [updV, su]
    by_cases e : d2 = d
    · subst e; simp [hd]
    · have : ¬ (400 * i + d2 = 400 * i + d) := by omega
      simp [e, this]) (oth_s (by simp only [ownS]; congr 1; omega) (by decide))
theorem hb_34 (hY : zok g A z P S) {i : Nat} (hi : i < S) : g.1 ≤ A 34 i := (hY.1 34 i (lvS 34 (by decide) (by decide) hi)).2.1
theorem cO_34 (hY : zok g A z P S) {i : Nat} (hi : i < S) : xO (cp A z s o) (A 34 i) 7 = true := cp_O hY (lvS 34 (by decide) (by decide) hi) rfl
theorem cg_34_0 (hY : zok g A z P S) {i : Nat} (hi : i < S) : xg (cp A z s o) (A 34 i) 0 = .int (nI i) := cp_g hY (lvS 34 (by decide) (by decide) hi) rfl rfl
theorem cg_34_1 (hY : zok g A z P S) {i : Nat} (hi : i < S) : xg (cp A z s o) (A 34 i) 1 = .int (s 20 i) := cp_g hY (lvS 34 (by decide) (by decide) hi) rfl rfl
theorem cw_34_1 (hY : zok g A z P S) {i : Nat} (hi : i < S) (v : Int32) : xpf (cp A z s o) (A 34 i) 1 (.int v) = cp A z (su s 20 i v) o := cp_pf hY (lvS 34 (by decide) (by decide) hi) rfl (by simp) (by simp [ccell, su]) (oth_s rfl (by decide))
theorem cg_34_2 (hY : zok g A z P S) {i : Nat} (hi : i < S) : xg (cp A z s o) (A 34 i) 2 = .int (s 21 i) := cp_g hY (lvS 34 (by decide) (by decide) hi) rfl rfl
theorem cw_34_2 (hY : zok g A z P S) {i : Nat} (hi : i < S) (v : Int32) : xpf (cp A z s o) (A 34 i) 2 (.int v) = cp A z (su s 21 i v) o := cp_pf hY (lvS 34 (by decide) (by decide) hi) rfl (by simp) (by simp [ccell, su]) (oth_s rfl (by decide))
theorem cg_34_3 (hY : zok g A z P S) {i : Nat} (hi : i < S) : xg (cp A z s o) (A 34 i) 3 = .int (s 22 i) := cp_g hY (lvS 34 (by decide) (by decide) hi) rfl rfl
theorem cw_34_3 (hY : zok g A z P S) {i : Nat} (hi : i < S) (v : Int32) : xpf (cp A z s o) (A 34 i) 3 (.int v) = cp A z (su s 22 i v) o := cp_pf hY (lvS 34 (by decide) (by decide) hi) rfl (by simp) (by simp [ccell, su]) (oth_s rfl (by decide))
theorem cg_34_4 (hY : zok g A z P S) {i : Nat} (hi : i < S) : xg (cp A z s o) (A 34 i) 4 = .int (s 23 i) := cp_g hY (lvS 34 (by decide) (by decide) hi) rfl rfl
theorem cw_34_4 (hY : zok g A z P S) {i : Nat} (hi : i < S) (v : Int32) : xpf (cp A z s o) (A 34 i) 4 (.int v) = cp A z (su s 23 i v) o := cp_pf hY (lvS 34 (by decide) (by decide) hi) rfl (by simp) (by simp [ccell, su]) (oth_s rfl (by decide))
theorem cg_34_5 (hY : zok g A z P S) {i : Nat} (hi : i < S) : xg (cp A z s o) (A 34 i) 5 = .int (s 24 i) := cp_g hY (lvS 34 (by decide) (by decide) hi) rfl rfl
theorem cw_34_5 (hY : zok g A z P S) {i : Nat} (hi : i < S) (v : Int32) : xpf (cp A z s o) (A 34 i) 5 (.int v) = cp A z (su s 24 i v) o := cp_pf hY (lvS 34 (by decide) (by decide) hi) rfl (by simp) (by simp [ccell, su]) (oth_s rfl (by decide))
theorem cg_34_6 (hY : zok g A z P S) {i : Nat} (hi : i < S) : xg (cp A z s o) (A 34 i) 6 = .int (s 25 i) := cp_g hY (lvS 34 (by decide) (by decide) hi) rfl rfl
theorem cw_34_6 (hY : zok g A z P S) {i : Nat} (hi : i < S) (v : Int32) : xpf (cp A z s o) (A 34 i) 6 (.int v) = cp A z (su s 25 i v) o := cp_pf hY (lvS 34 (by decide) (by decide) hi) rfl (by simp) (by simp [ccell, su]) (oth_s rfl (by decide))
theorem cg_34_7 (hY : zok g A z P S) {i : Nat} (hi : i < S) : xg (cp A z s o) (A 34 i) 7 = .ref (A 35 i) := cp_g hY (lvS 34 (by decide) (by decide) hi) rfl rfl
theorem cg_34_8 (hY : zok g A z P S) {i : Nat} (hi : i < S) : xg (cp A z s o) (A 34 i) 8 = .ref (A 36 i) := cp_g hY (lvS 34 (by decide) (by decide) hi) rfl rfl
theorem hb_35 (hY : zok g A z P S) {i : Nat} (hi : i < S) : g.1 ≤ A 35 i := (hY.1 35 i (lvS 35 (by decide) (by decide) hi)).2.1
theorem cO_35 (hY : zok g A z P S) {i : Nat} (hi : i < S) : xO (cp A z s o) (A 35 i) 9 = true := cp_O hY (lvS 35 (by decide) (by decide) hi) rfl
theorem cg_35_0 (hY : zok g A z P S) {i : Nat} (hi : i < S) : xg (cp A z s o) (A 35 i) 0 = .int (s 26 i) := cp_g hY (lvS 35 (by decide) (by decide) hi) rfl rfl
theorem cw_35_0 (hY : zok g A z P S) {i : Nat} (hi : i < S) (v : Int32) : xpf (cp A z s o) (A 35 i) 0 (.int v) = cp A z (su s 26 i v) o := cp_pf hY (lvS 35 (by decide) (by decide) hi) rfl (by simp) (by simp [ccell, su]) (oth_s rfl (by decide))
theorem cg_35_1 (hY : zok g A z P S) {i : Nat} (hi : i < S) : xg (cp A z s o) (A 35 i) 1 = .int (s 27 i) := cp_g hY (lvS 35 (by decide) (by decide) hi) rfl rfl
theorem cw_35_1 (hY : zok g A z P S) {i : Nat} (hi : i < S) (v : Int32) : xpf (cp A z s o) (A 35 i) 1 (.int v) = cp A z (su s 27 i v) o := cp_pf hY (lvS 35 (by decide) (by decide) hi) rfl (by simp) (by simp [ccell, su]) (oth_s rfl (by decide))
theorem cg_35_2 (hY : zok g A z P S) {i : Nat} (hi : i < S) : xg (cp A z s o) (A 35 i) 2 = rP A (s 28 i) := cp_g hY (lvS 35 (by decide) (by decide) hi) rfl rfl
theorem cw_35_2 (hY : zok g A z P S) {i : Nat} (hi : i < S) (v : Int32) : xpf (cp A z s o) (A 35 i) 2 (rP A v) = cp A z (su s 28 i v) o := cp_pf hY (lvS 35 (by decide) (by decide) hi) rfl (by simp) (by simp [ccell, su]) (oth_s rfl (by decide))
theorem cn_35_2 (hY : zok g A z P S) {i : Nat} (hi : i < S) : xpf (cp A z s o) (A 35 i) 2 .null = cp A z (su s 28 i (-1)) o := cw_35_2 hY hi (-1)
theorem cr_35_2 (hY : zok g A z P S) {i : Nat} (hi : i < S) {p : Nat} (hp : p < 2 ^ 31) : xpf (cp A z s o) (A 35 i) 2 (.ref (A 30 p)) = cp A z (su s 28 i (nI p)) o := by rw [← rP_r hp]; exact cw_35_2 hY hi (nI p)
theorem cg_35_3 (hY : zok g A z P S) {i : Nat} (hi : i < S) : xg (cp A z s o) (A 35 i) 3 = rP A (s 29 i) := cp_g hY (lvS 35 (by decide) (by decide) hi) rfl rfl
theorem cw_35_3 (hY : zok g A z P S) {i : Nat} (hi : i < S) (v : Int32) : xpf (cp A z s o) (A 35 i) 3 (rP A v) = cp A z (su s 29 i v) o := cp_pf hY (lvS 35 (by decide) (by decide) hi) rfl (by simp) (by simp [ccell, su]) (oth_s rfl (by decide))
theorem cn_35_3 (hY : zok g A z P S) {i : Nat} (hi : i < S) : xpf (cp A z s o) (A 35 i) 3 .null = cp A z (su s 29 i (-1)) o := cw_35_3 hY hi (-1)
theorem cr_35_3 (hY : zok g A z P S) {i : Nat} (hi : i < S) {p : Nat} (hp : p < 2 ^ 31) : xpf (cp A z s o) (A 35 i) 3 (.ref (A 30 p)) = cp A z (su s 29 i (nI p)) o := by rw [← rP_r hp]; exact cw_35_3 hY hi (nI p)
theorem cg_35_4 (hY : zok g A z P S) {i : Nat} (hi : i < S) : xg (cp A z s o) (A 35 i) 4 = rP A (s 30 i) := cp_g hY (lvS 35 (by decide) (by decide) hi) rfl rfl
theorem cw_35_4 (hY : zok g A z P S) {i : Nat} (hi : i < S) (v : Int32) : xpf (cp A z s o) (A 35 i) 4 (rP A v) = cp A z (su s 30 i v) o := cp_pf hY (lvS 35 (by decide) (by decide) hi) rfl (by simp) (by simp [ccell, su]) (oth_s rfl (by decide))
theorem cn_35_4 (hY : zok g A z P S) {i : Nat} (hi : i < S) : xpf (cp A z s o) (A 35 i) 4 .null = cp A z (su s 30 i (-1)) o := cw_35_4 hY hi (-1)
theorem cr_35_4 (hY : zok g A z P S) {i : Nat} (hi : i < S) {p : Nat} (hp : p < 2 ^ 31) : xpf (cp A z s o) (A 35 i) 4 (.ref (A 30 p)) = cp A z (su s 30 i (nI p)) o := by rw [← rP_r hp]; exact cw_35_4 hY hi (nI p)
theorem cg_35_5 (hY : zok g A z P S) {i : Nat} (hi : i < S) : xg (cp A z s o) (A 35 i) 5 = .int (s 31 i) := cp_g hY (lvS 35 (by decide) (by decide) hi) rfl rfl
theorem cw_35_5 (hY : zok g A z P S) {i : Nat} (hi : i < S) (v : Int32) : xpf (cp A z s o) (A 35 i) 5 (.int v) = cp A z (su s 31 i v) o := cp_pf hY (lvS 35 (by decide) (by decide) hi) rfl (by simp) (by simp [ccell, su]) (oth_s rfl (by decide))
theorem cg_35_6 (hY : zok g A z P S) {i : Nat} (hi : i < S) : xg (cp A z s o) (A 35 i) 6 = .int (s 32 i) := cp_g hY (lvS 35 (by decide) (by decide) hi) rfl rfl
theorem cw_35_6 (hY : zok g A z P S) {i : Nat} (hi : i < S) (v : Int32) : xpf (cp A z s o) (A 35 i) 6 (.int v) = cp A z (su s 32 i v) o := cp_pf hY (lvS 35 (by decide) (by decide) hi) rfl (by simp) (by simp [ccell, su]) (oth_s rfl (by decide))
theorem cg_35_7 (hY : zok g A z P S) {i : Nat} (hi : i < S) : xg (cp A z s o) (A 35 i) 7 = .int (s 33 i) := cp_g hY (lvS 35 (by decide) (by decide) hi) rfl rfl
theorem cw_35_7 (hY : zok g A z P S) {i : Nat} (hi : i < S) (v : Int32) : xpf (cp A z s o) (A 35 i) 7 (.int v) = cp A z (su s 33 i v) o := cp_pf hY (lvS 35 (by decide) (by decide) hi) rfl (by simp) (by simp [ccell, su]) (oth_s rfl (by decide))
theorem hb_36 (hY : zok g A z P S) {i : Nat} (hi : i < S) : g.1 ≤ A 36 i := (hY.1 36 i (lvS 36 (by decide) (by decide) hi)).2.1
theorem cO_36 (hY : zok g A z P S) {i : Nat} (hi : i < S) : xO (cp A z s o) (A 36 i) 9 = true := cp_O hY (lvS 36 (by decide) (by decide) hi) rfl
theorem cg_36_0 (hY : zok g A z P S) {i : Nat} (hi : i < S) : xg (cp A z s o) (A 36 i) 0 = .int (o 80 i) := cp_g hY (lvS 36 (by decide) (by decide) hi) rfl rfl
theorem cw_36_0 (hY : zok g A z P S) {i : Nat} (hi : i < S) (v : Int32) : xpf (cp A z s o) (A 36 i) 0 (.int v) = cp A z s (su o 80 i v) := cp_pf hY (lvS 36 (by decide) (by decide) hi) rfl (by simp) (by simp [ccell, su]) (oth_o rfl (by decide))
theorem cg_36_1 (hY : zok g A z P S) {i : Nat} (hi : i < S) : xg (cp A z s o) (A 36 i) 1 = .int (o 81 i) := cp_g hY (lvS 36 (by decide) (by decide) hi) rfl rfl
theorem cw_36_1 (hY : zok g A z P S) {i : Nat} (hi : i < S) (v : Int32) : xpf (cp A z s o) (A 36 i) 1 (.int v) = cp A z s (su o 81 i v) := cp_pf hY (lvS 36 (by decide) (by decide) hi) rfl (by simp) (by simp [ccell, su]) (oth_o rfl (by decide))
theorem cg_36_2 (hY : zok g A z P S) {i : Nat} (hi : i < S) : xg (cp A z s o) (A 36 i) 2 = rP A (o 82 i) := cp_g hY (lvS 36 (by decide) (by decide) hi) rfl rfl
theorem cw_36_2 (hY : zok g A z P S) {i : Nat} (hi : i < S) (v : Int32) : xpf (cp A z s o) (A 36 i) 2 (rP A v) = cp A z s (su o 82 i v) := cp_pf hY (lvS 36 (by decide) (by decide) hi) rfl (by simp) (by simp [ccell, su]) (oth_o rfl (by decide))
theorem cn_36_2 (hY : zok g A z P S) {i : Nat} (hi : i < S) : xpf (cp A z s o) (A 36 i) 2 .null = cp A z s (su o 82 i (-1)) := cw_36_2 hY hi (-1)
theorem cr_36_2 (hY : zok g A z P S) {i : Nat} (hi : i < S) {p : Nat} (hp : p < 2 ^ 31) : xpf (cp A z s o) (A 36 i) 2 (.ref (A 30 p)) = cp A z s (su o 82 i (nI p)) := by rw [← rP_r hp]; exact cw_36_2 hY hi (nI p)
theorem cg_36_3 (hY : zok g A z P S) {i : Nat} (hi : i < S) : xg (cp A z s o) (A 36 i) 3 = rP A (o 83 i) := cp_g hY (lvS 36 (by decide) (by decide) hi) rfl rfl
theorem cw_36_3 (hY : zok g A z P S) {i : Nat} (hi : i < S) (v : Int32) : xpf (cp A z s o) (A 36 i) 3 (rP A v) = cp A z s (su o 83 i v) := cp_pf hY (lvS 36 (by decide) (by decide) hi) rfl (by simp) (by simp [ccell, su]) (oth_o rfl (by decide))
theorem cn_36_3 (hY : zok g A z P S) {i : Nat} (hi : i < S) : xpf (cp A z s o) (A 36 i) 3 .null = cp A z s (su o 83 i (-1)) := cw_36_3 hY hi (-1)
theorem cr_36_3 (hY : zok g A z P S) {i : Nat} (hi : i < S) {p : Nat} (hp : p < 2 ^ 31) : xpf (cp A z s o) (A 36 i) 3 (.ref (A 30 p)) = cp A z s (su o 83 i (nI p)) := by rw [← rP_r hp]; exact cw_36_3 hY hi (nI p)
theorem cg_36_4 (hY : zok g A z P S) {i : Nat} (hi : i < S) : xg (cp A z s o) (A 36 i) 4 = rP A (o 84 i) := cp_g hY (lvS 36 (by decide) (by decide) hi) rfl rfl
theorem cw_36_4 (hY : zok g A z P S) {i : Nat} (hi : i < S) (v : Int32) : xpf (cp A z s o) (A 36 i) 4 (rP A v) = cp A z s (su o 84 i v) := cp_pf hY (lvS 36 (by decide) (by decide) hi) rfl (by simp) (by simp [ccell, su]) (oth_o rfl (by decide))
theorem cn_36_4 (hY : zok g A z P S) {i : Nat} (hi : i < S) : xpf (cp A z s o) (A 36 i) 4 .null = cp A z s (su o 84 i (-1)) := cw_36_4 hY hi (-1)
theorem cr_36_4 (hY : zok g A z P S) {i : Nat} (hi : i < S) {p : Nat} (hp : p < 2 ^ 31) : xpf (cp A z s o) (A 36 i) 4 (.ref (A 30 p)) = cp A z s (su o 84 i (nI p)) := by rw [← rP_r hp]; exact cw_36_4 hY hi (nI p)
theorem cg_36_5 (hY : zok g A z P S) {i : Nat} (hi : i < S) : xg (cp A z s o) (A 36 i) 5 = .int (o 85 i) := cp_g hY (lvS 36 (by decide) (by decide) hi) rfl rfl
theorem cw_36_5 (hY : zok g A z P S) {i : Nat} (hi : i < S) (v : Int32) : xpf (cp A z s o) (A 36 i) 5 (.int v) = cp A z s (su o 85 i v) := cp_pf hY (lvS 36 (by decide) (by decide) hi) rfl (by simp) (by simp [ccell, su]) (oth_o rfl (by decide))
theorem cg_36_6 (hY : zok g A z P S) {i : Nat} (hi : i < S) : xg (cp A z s o) (A 36 i) 6 = .int (o 86 i) := cp_g hY (lvS 36 (by decide) (by decide) hi) rfl rfl
theorem cw_36_6 (hY : zok g A z P S) {i : Nat} (hi : i < S) (v : Int32) : xpf (cp A z s o) (A 36 i) 6 (.int v) = cp A z s (su o 86 i v) := cp_pf hY (lvS 36 (by decide) (by decide) hi) rfl (by simp) (by simp [ccell, su]) (oth_o rfl (by decide))
theorem cg_36_7 (hY : zok g A z P S) {i : Nat} (hi : i < S) : xg (cp A z s o) (A 36 i) 7 = .int (o 87 i) := cp_g hY (lvS 36 (by decide) (by decide) hi) rfl rfl
theorem cw_36_7 (hY : zok g A z P S) {i : Nat} (hi : i < S) (v : Int32) : xpf (cp A z s o) (A 36 i) 7 (.int v) = cp A z s (su o 87 i v) := cp_pf hY (lvS 36 (by decide) (by decide) hi) rfl (by simp) (by simp [ccell, su]) (oth_o rfl (by decide))
end CP
