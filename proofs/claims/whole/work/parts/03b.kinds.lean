/-! ===== the kinds: words of their fields, types ===== -/
theorem xcls_at : ∀ c, c < 12 → xCls[c]? = some (xown c, xfd c, xNf c) := by
  intro c hc
  match c, hc with
  | 0, _ => rfl
  | 1, _ => rfl
  | 2, _ => rfl
  | 3, _ => rfl
  | 4, _ => rfl
  | 5, _ => rfl
  | 6, _ => rfl
  | 7, _ => rfl
  | 8, _ => rfl
  | 9, _ => rfl
  | 10, _ => rfl
  | 11, _ => rfl
  | n + 12, h => exact absurd h (by omega)
theorem xws_0 : xck (u_ws (xown 0) (xfd 0) (xNf 0)) [120, 116, 118] = true := by decide +kernel
theorem xws_1 : xck (u_ws (xown 1) (xfd 1) (xNf 1)) [190, 192, 194, 196] = true := by decide +kernel
theorem xws_2 : xck (u_ws (xown 2) (xfd 2) (xNf 2)) [146, 148] = true := by decide +kernel
theorem xws_3 : xck (u_ws (xown 3) (xfd 3) (xNf 3)) [734, 736, 738, 740, 742, 744, 746, 748, 750] = true := by decide +kernel
theorem xws_4 : xck (u_ws (xown 4) (xfd 4) (xNf 4)) [772, 774, 776, 778, 780, 782, 784, 786, 788] = true := by decide +kernel
theorem xws_5 : xck (u_ws (xown 5) (xfd 5) (xNf 5)) [160, 162, 164] = true := by decide +kernel
theorem xws_6 : xck (u_ws (xown 6) (xfd 6) (xNf 6)) [176] = true := by decide +kernel
theorem xws_7 : xck (u_ws (xown 7) (xfd 7) (xNf 7)) [871, 873, 875, 877, 879, 881, 883, 885, 887] = true := by decide +kernel
theorem xws_8 : xck (u_ws (xown 8) (xfd 8) (xNf 8)) [131, 133] = true := by decide +kernel
theorem xws_9 : xck (u_ws (xown 9) (xfd 9) (xNf 9)) [833, 835, 837, 839, 841, 843, 845, 847] = true := by decide +kernel
theorem xws_10 : xck (u_ws (xown 10) (xfd 10) (xNf 10)) [214, 216, 218, 220, 222, 224, 226, 228, 230, 232, 234, 236, 238, 240, 242] = true := by decide +kernel
theorem xws_11 : xck (u_ws (xown 11) (xfd 11) (xNf 11)) [1339, 1341, 1343, 1345, 1347, 1349, 1351, 1353, 1355, 1357, 1359, 1361, 1363, 1365, 1367, 1369, 1371, 1373, 1375, 1377, 1379, 1381, 1383, 1385, 1387, 1389, 1391, 1393, 1395, 1397, 1399, 1401, 1403, 1405, 1407, 1409, 1411, 1413, 1415, 1417, 1419, 1421, 1423, 1425, 1427, 1429, 1431, 1433, 1435, 1437, 1439, 1441, 1443, 1445, 1447, 1449] = true := by decide +kernel
theorem xws_in : ∀ c, c < 12 → ∀ w ∈ u_ws (xown c) (xfd c) (xNf c), w ∈ xT := by
  intro c hc
  match c, hc with
  | 0, _ => exact xck_mem xws_0
  | 1, _ => exact xck_mem xws_1
  | 2, _ => exact xck_mem xws_2
  | 3, _ => exact xck_mem xws_3
  | 4, _ => exact xck_mem xws_4
  | 5, _ => exact xck_mem xws_5
  | 6, _ => exact xck_mem xws_6
  | 7, _ => exact xck_mem xws_7
  | 8, _ => exact xck_mem xws_8
  | 9, _ => exact xck_mem xws_9
  | 10, _ => exact xck_mem xws_10
  | 11, _ => exact xck_mem xws_11
  | n + 12, h => exact absurd h (by omega)
def xtf (c : Nat) : Nat → FieldType := match c with | 0 => tyJx4a65c | 1 => tyX0 | 2 => tyX1 | 3 => tyX2 | 4 => tyX3 | 5 => tyX4 | 6 => tyX5 | 7 => tyX6 | 8 => tyX7 | 9 => tyX8 | 10 => tyX9 | _ => tyX10
theorem xtf_ok : ∀ c, c < 12 → ∀ k, k < xNf c → parseFieldDescriptor (xfd c k).2.2.1 = some (xtf c k) := by
  intro c hc
  match c, hc with
  | 0, _ => exact tyJx4a65c_ok
  | 1, _ => exact tyX0_ok
  | 2, _ => exact tyX1_ok
  | 3, _ => exact tyX2_ok
  | 4, _ => exact tyX3_ok
  | 5, _ => exact tyX4_ok
  | 6, _ => exact tyX5_ok
  | 7, _ => exact tyX6_ok
  | 8, _ => exact tyX7_ok
  | 9, _ => exact tyX8_ok
  | 10, _ => exact tyX9_ok
  | 11, _ => exact tyX10_ok
  | n + 12, h => exact absurd h (by omega)
theorem xnm_ok : ∀ c, c < 12 → ∀ a, a < xNf c → ∀ b, b < xNf c → a ≠ b → (xfd c a).2.1 ≠ (xfd c b).2.1 := by
  intro c hc
  match c, hc with
  | 0, _ => exact nmJx4a65c
  | 1, _ => exact nmX0
  | 2, _ => exact nmX1
  | 3, _ => exact nmX2
  | 4, _ => exact nmX3
  | 5, _ => exact nmX4
  | 6, _ => exact nmX5
  | 7, _ => exact nmX6
  | 8, _ => exact nmX7
  | 9, _ => exact nmX8
  | 10, _ => exact nmX9
  | 11, _ => exact nmX10
  | n + 12, h => exact absurd h (by omega)
def xtag (t : FieldType) : Nat := match t with | .int => 0 | .boolean => 1 | .object _ => 2 | .array _ => 2 | _ => 9
theorem xft_tag : ∀ c, c < 12 → ∀ k, k < xNf c → xft c k = xtag (xtf c k) ∧ xtag (xtf c k) < 3 := by decide +kernel
theorem xfit_ok {t : FieldType} {v : Value} (h : xfit (xtag t) v = true) : narrow t v = v ∧ fits t v = true := by
  cases t <;> cases v <;> simp [xtag, xfit] at h <;> first | (exact ⟨rfl, rfl⟩) | (rcases h with rfl | rfl <;> exact ⟨by decide +kernel, by decide +kernel⟩) | skip
theorem xdf_ok {t : FieldType} (h : xtag t < 3) : defaultValue t = xdf (xtag t) := by
  cases t <;> first | rfl | simp [xtag] at h
theorem xfl_ok {a b c k : Nat} (h : xfl a b = some (c, k)) : c < 12 ∧ k < xNf c ∧ ((Cond.fieldLink (xown a) b (xfd c k).1 (xfd c k).2.1 (xfd c k).2.2.1 ∈ xT) ∨ (Cond.fieldLink (xown a) b (xown c) (xfd c k).2.1 (xfd c k).2.2.1 ∈ xT ∧ Cond.sameField (xown c) (xfd c k).1 (xfd c k).2.1 (xfd c k).2.2.1 ∈ xT)) := by
  unfold xfl at h
  cases hf : xflT.find? (fun q => q.1 == a && q.2.1 == b) with
  | none => rw [hf] at h; cases h
  | some q =>
    rw [hf] at h
    have hm := List.mem_of_find?_eq_some hf
    have hp := List.find?_some hf
    have ho := List.all_eq_true.mp xflT_ok q hm
    obtain ⟨a', b', c', k', ps, t⟩ := q
    simp only [Option.map_some, Option.some.injEq, Prod.mk.injEq, Bool.and_eq_true, beq_iff_eq, decide_eq_true_eq] at h hp ho
    obtain ⟨rfl, rfl⟩ := hp
    obtain ⟨rfl, rfl⟩ := h
    obtain ⟨o1, o2, o3⟩ := ho
    refine ⟨o3, o2, ?_⟩
    have hw := xck_mem o1
    cases t with
    | false => exact Or.inl (hw _ (by simp [xfw]))
    | true => exact Or.inr ⟨hw _ (by simp [xfw]), hw _ (by simp [xfw])⟩
theorem xcl_ok {a b c : Nat} (h : xcl a b = some c) : c < 12 ∧ Cond.classLink (xown a) b (xown c) ∈ xT ∧ Cond.instantiable (xown c) (xNf c) ∈ xT ∧ Cond.initialized (xown c) ∈ xT := by
  unfold xcl at h
  cases hf : xclT.find? (fun q => q.1 == a && q.2.1 == b) with
  | none => rw [hf] at h; cases h
  | some q =>
    rw [hf] at h
    have hm := List.mem_of_find?_eq_some hf
    have hp := List.find?_some hf
    have ho := List.all_eq_true.mp xclT_ok q hm
    obtain ⟨a', b', c', ps⟩ := q
    simp only [Option.map_some, Option.some.injEq, Bool.and_eq_true, beq_iff_eq, decide_eq_true_eq] at h hp ho
    obtain ⟨rfl, rfl⟩ := hp
    subst h
    obtain ⟨o1, o2⟩ := ho
    have hw := xck_mem o1
    exact ⟨o2, hw _ (by simp), hw _ (by simp), hw _ (by simp)⟩
theorem xml_ok {a b k M n c : Nat} (h : xml a b = some (k, M, n, c)) : ∃ ps : List Nat, (∀ w ∈ xmw (a, b, k, M, n, c, ps), w ∈ xT) ∧ xmq (a, b, k, M, n, c, ps) = true := by
  unfold xml at h
  cases hf : xmlT.find? (fun q => q.1 == a && q.2.1 == b) with
  | none => rw [hf] at h; cases h
  | some q =>
    rw [hf] at h
    have hm := List.mem_of_find?_eq_some hf
    have hp := List.find?_some hf
    have ho := xmlT_ok q hm
    obtain ⟨a', b', k', M', n', c', ps⟩ := q
    simp only [Option.map_some, Option.some.injEq, Prod.mk.injEq, Bool.and_eq_true, beq_iff_eq] at h hp
    obtain ⟨rfl, rfl⟩ := hp
    obtain ⟨rfl, rfl, rfl, rfl⟩ := h
    exact ⟨ps, xck_mem ho.1, ho.2⟩
theorem xw_acn : Cond.native arraycopyName ∈ xT := xck_mem (ws := [Cond.native arraycopyName]) (is := [353]) (by decide +kernel) _ List.mem_cons_self
theorem xw_acs : Cond.static arraycopyName ∈ xT := xck_mem (ws := [Cond.static arraycopyName]) (is := [352]) (by decide +kernel) _ List.mem_cons_self
theorem xw_sys : Cond.initialized "java/lang/System" ∈ xT := xck_mem (ws := [Cond.initialized "java/lang/System"]) (is := [76]) (by decide +kernel) _ List.mem_cons_self
theorem xw_gcn : Cond.native ⟨"java/lang/Object", "getClass", "()Ljava/lang/Class;"⟩ ∈ xT := xck_mem (ws := [Cond.native ⟨"java/lang/Object", "getClass", "()Ljava/lang/Class;"⟩]) (is := [341]) (by decide +kernel) _ List.mem_cons_self
theorem xw_gci : Cond.instanceMethod ⟨"java/lang/Object", "getClass", "()Ljava/lang/Class;"⟩ ∈ xT := xck_mem (ws := [Cond.instanceMethod ⟨"java/lang/Object", "getClass", "()Ljava/lang/Class;"⟩]) (is := [322]) (by decide +kernel) _ List.mem_cons_self
theorem xw_gcs : Cond.selects "[Ljava/lang/Object;" ⟨"java/lang/Object", "getClass", "()Ljava/lang/Class;"⟩ ⟨"java/lang/Object", "getClass", "()Ljava/lang/Class;"⟩ ∈ xT := xck_mem (ws := [Cond.selects "[Ljava/lang/Object;" ⟨"java/lang/Object", "getClass", "()Ljava/lang/Class;"⟩ ⟨"java/lang/Object", "getClass", "()Ljava/lang/Class;"⟩]) (is := [1688]) (by decide +kernel) _ List.mem_cons_self
theorem xw_gcl : Cond.methodLink (xown 15) 86 ⟨"java/lang/Object", "getClass", "()Ljava/lang/Class;"⟩ ∈ xT := xck_mem (ws := [Cond.methodLink (xown 15) 86 ⟨"java/lang/Object", "getClass", "()Ljava/lang/Class;"⟩]) (is := [321]) (by decide +kernel) _ List.mem_cons_self
theorem xw_oii : Cond.instanceMethod objectInit ∈ xT := xck_mem (ws := [Cond.instanceMethod objectInit]) (is := [95]) (by decide +kernel) _ List.mem_cons_self
theorem xw_oic : Cond.code objectInit ⟨#[0xb1]⟩ 1 none ∈ xT := xck_mem (ws := [Cond.code objectInit ⟨#[0xb1]⟩ 1 none]) (is := [96]) (by decide +kernel) _ List.mem_cons_self
theorem xw_ed : Cond.fieldLink (xown 0) 39 "java/util/ArrayList" "DEFAULTCAPACITY_EMPTY_ELEMENTDATA" "[Ljava/lang/Object;" ∈ xT := xck_mem (ws := [Cond.fieldLink (xown 0) 39 "java/util/ArrayList" "DEFAULTCAPACITY_EMPTY_ELEMENTDATA" "[Ljava/lang/Object;"]) (is := [109]) (by decide +kernel) _ List.mem_cons_self
theorem xw_mir : Cond.classLink (xown 15) 110 "[Ljava/lang/Object;" ∈ xT := xck_mem (ws := [Cond.classLink (xown 15) 110 "[Ljava/lang/Object;"]) (is := [345]) (by decide +kernel) _ List.mem_cons_self
theorem xw_an0 : Cond.classLink (xown 0) 7 "java/lang/Object" ∈ xT := xck_mem (ws := [Cond.classLink (xown 0) 7 "java/lang/Object"]) (is := [355]) (by decide +kernel) _ List.mem_cons_self
theorem xw_an1 : Cond.classLink (xown 15) 2 "java/lang/Object" ∈ xT := xck_mem (ws := [Cond.classLink (xown 15) 2 "java/lang/Object"]) (is := [347]) (by decide +kernel) _ List.mem_cons_self
theorem xw_aint : Cond.arrayClass .int ∈ xT := xck_mem (ws := [Cond.arrayClass .int]) (is := [136]) (by decide +kernel) _ List.mem_cons_self
theorem xw_aboolean : Cond.arrayClass .boolean ∈ xT := xck_mem (ws := [Cond.arrayClass .boolean]) (is := [791]) (by decide +kernel) _ List.mem_cons_self
theorem xw_along : Cond.arrayClass .long ∈ xT := xck_mem (ws := [Cond.arrayClass .long]) (is := [1659]) (by decide +kernel) _ List.mem_cons_self
theorem xw_c0 : Cond.constant (xown 16) 200 2147483639 ∈ xT := xck_mem (ws := [Cond.constant (xown 16) 200 2147483639]) (is := [314]) (by decide +kernel) _ List.mem_cons_self
theorem xw_c1 : Cond.constant (xown 10) 165 16777215 ∈ xT := xck_mem (ws := [Cond.constant (xown 10) 165 16777215]) (is := [1175]) (by decide +kernel) _ List.mem_cons_self
theorem xw_c2 : Cond.constant (xown 11) 171 16777215 ∈ xT := xck_mem (ws := [Cond.constant (xown 11) 171 16777215]) (is := [1482]) (by decide +kernel) _ List.mem_cons_self
theorem xw_ac : ∀ a b, xnt a b 1 = 2 → Cond.methodLink (xown a) b arraycopyName ∈ xT := by
  intro a b h
  have h2 : (a = 0 ∧ b = 112) ∨ (a = 15 ∧ b = 150) := by
    simp only [xnt] at h
    split at h
    · rename_i hq; simpa using hq
    · cases h
  rcases h2 with ⟨rfl, rfl⟩ | ⟨rfl, rfl⟩
  · exact xck_mem (ws := [Cond.methodLink (xown 0) 112 arraycopyName]) (is := [502]) (by decide +kernel) _ List.mem_cons_self
  · exact xck_mem (ws := [Cond.methodLink (xown 15) 150 arraycopyName]) (is := [351]) (by decide +kernel) _ List.mem_cons_self
theorem xw_oi : ∀ a b, xnt a b 0 = 1 → Cond.methodLink (xown a) b objectInit ∈ xT := by
  intro a b h
  have h2 : (a = 1 ∧ b = 3) ∨ (a = 2 ∧ b = 3) ∨ (a = 3 ∧ b = 3) ∨ (a = 4 ∧ b = 3) ∨ (a = 6 ∧ b = 3) ∨ (a = 8 ∧ b = 3) ∨ (a = 9 ∧ b = 3) ∨ (a = 10 ∧ b = 3) ∨ (a = 5 ∧ b = 1) ∨ (a = 7 ∧ b = 1) ∨ (a = 11 ∧ b = 1) ∨ (a = 14 ∧ b = 1) := by
    simp only [xnt] at h
    split at h
    · rename_i hq; simp at hq; omega
    · split at h
      · rename_i hq; simp at hq; omega
      · cases h
  rcases h2 with ⟨rfl, rfl⟩ | ⟨rfl, rfl⟩ | ⟨rfl, rfl⟩ | ⟨rfl, rfl⟩ | ⟨rfl, rfl⟩ | ⟨rfl, rfl⟩ | ⟨rfl, rfl⟩ | ⟨rfl, rfl⟩ | ⟨rfl, rfl⟩ | ⟨rfl, rfl⟩ | ⟨rfl, rfl⟩ | ⟨rfl, rfl⟩
  · exact xck_mem (ws := [Cond.methodLink (xown 1) 3 objectInit]) (is := [184]) (by decide +kernel) _ List.mem_cons_self
  · exact xck_mem (ws := [Cond.methodLink (xown 2) 3 objectInit]) (is := [142]) (by decide +kernel) _ List.mem_cons_self
  · exact xck_mem (ws := [Cond.methodLink (xown 3) 3 objectInit]) (is := [714]) (by decide +kernel) _ List.mem_cons_self
  · exact xck_mem (ws := [Cond.methodLink (xown 4) 3 objectInit]) (is := [708]) (by decide +kernel) _ List.mem_cons_self
  · exact xck_mem (ws := [Cond.methodLink (xown 6) 3 objectInit]) (is := [172]) (by decide +kernel) _ List.mem_cons_self
  · exact xck_mem (ws := [Cond.methodLink (xown 8) 3 objectInit]) (is := [128]) (by decide +kernel) _ List.mem_cons_self
  · exact xck_mem (ws := [Cond.methodLink (xown 9) 3 objectInit]) (is := [816]) (by decide +kernel) _ List.mem_cons_self
  · exact xck_mem (ws := [Cond.methodLink (xown 10) 3 objectInit]) (is := [94]) (by decide +kernel) _ List.mem_cons_self
  · exact xck_mem (ws := [Cond.methodLink (xown 5) 1 objectInit]) (is := [156]) (by decide +kernel) _ List.mem_cons_self
  · exact xck_mem (ws := [Cond.methodLink (xown 7) 1 objectInit]) (is := [810]) (by decide +kernel) _ List.mem_cons_self
  · exact xck_mem (ws := [Cond.methodLink (xown 11) 1 objectInit]) (is := [1282]) (by decide +kernel) _ List.mem_cons_self
  · exact xck_mem (ws := [Cond.methodLink (xown 14) 1 objectInit]) (is := [108]) (by decide +kernel) _ List.mem_cons_self
