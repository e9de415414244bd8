/-! THE START: the tables' words that the context needs. Written by program (wip/p55/gen/m900b.py). -/
theorem tb_ls : ∀ w ∈ ab_st.map (fun q => Cond.laysStatic q.1 q.2.1 q.2.2.1), w ∈ lw_tbl := sub_idx [325, 572, 574, 828, 848, 632, 634, 1265, 1266, 880, 1267, 1268, 1269, 1270, 946, 948, 954, 956, 958, 1271, 1272, 1000, 1002, 1004, 1006] (by decide +kernel)
theorem tb_in : ∀ w ∈ ab_st.map (fun q => Cond.initialized q.1), w ∈ lw_tbl := sub_idx [46, 47, 47, 39, 61, 55, 55, 63, 63, 63, 63, 63, 63, 63, 63, 63, 63, 63, 63, 63, 63, 63, 63, 63, 63] (by decide +kernel)
theorem tb_nM : ∀ w ∈ ab_nM.map (fun q => Cond.methodLinkNest q.1 q.2.1 q.2.2.1 q.2.2.2), w ∈ lw_tbl := sub_idx [76, 89, 252, 829, 913] (by decide +kernel)
theorem tb_nF : ∀ w ∈ ab_nF.map (fun q => Cond.fieldLinkNest q.1 q.2.1 q.2.2.1 q.2.2.2.1 q.2.2.2.2.1 q.2.2.2.2.2), w ∈ lw_tbl := sub_idx [827] (by decide +kernel)
theorem tb_nC : ∀ w ∈ ab_nC.map (fun q => Cond.castable q.1 q.2), w ∈ lw_tbl := sub_idx [470, 390, 776, 1121, 536] (by decide +kernel)
theorem tb_nO : ∀ w ∈ ab_nO.map (fun q => Cond.arrayOver (.object q)), w ∈ lw_tbl := sub_idx [348, 87, 257] (by decide +kernel)
theorem tb_nN : ∀ w ∈ ab_nN.map (fun q => Cond.not (.castable q.1 q.2)), w ∈ nar := sub_idx [476, 475, 478, 486, 489, 488] (by decide +kernel)
theorem tb_nD : ∀ w ∈ ab_nD.map Cond.declares, w ∈ lw_tbl := sub_idx [392, 394, 396] (by decide +kernel)
def tb_ow : List Cond := [.laysStatic "java/lang/Throwable" "UNASSIGNED_STACK" "[Ljava/lang/StackTraceElement;", .initialized "java/lang/Throwable", .laysStatic "java/lang/Throwable" "SUPPRESSED_SENTINEL" "Ljava/util/List;", .laysStatic "jdk/internal/util/Preconditions" "SIOOBE_FORMATTER" "Ljava/util/function/BiFunction;", .initialized "jdk/internal/util/Preconditions"]
theorem tb_ot : ∀ w ∈ tb_ow, w ∈ lw_tbl := sub_idx [415, 56, 417, 562, 52] (by decide +kernel)
def tb_iw : List Cond := [.instantiable "ValveRoom" 10, .instantiable "ValveRoom$Parser" 9, .instantiable "ValveRoom$House" 15, .instantiable "ValveRoom$Room" 15, .instantiable "ValveRoom$Tokens" 6, .instantiable "java/lang/String" 4, .instantiable "java/lang/StringBuilder" 4]
theorem tb_is : ∀ w ∈ tb_iw, w ∈ lw_tbl := sub_idx [67, 75, 81, 88, 251, 693, 316] (by decide +kernel)
def tb_aw : List Cond := [.arrayClass .int, .arrayClass .byte, .arrayClass .boolean, .arrayClass .char]
theorem tb_ar : ∀ w ∈ tb_aw, w ∈ lw_tbl := sub_idx [173, 172, 380, 1037] (by decide +kernel)
def tb_py : List MethodName := [yJ5_ensureCapacityInternal_d00df, yJ5_newCapacity_0f7a4, yJ5_inflate_da8c8, yJ5_appendNull_278bc, yJ5_inflateIfNeededFor_a7421, yJ5_putStringAt_47b60]
theorem tb_pp : ∀ w ∈ tb_py.map Cond.privateMethod, w ∈ lw_tbl := sub_idx [510, 514, 594, 506, 589, 585] (by decide +kernel)
theorem tb_pi : ∀ w ∈ tb_py.map Cond.instanceMethod, w ∈ lw_tbl := sub_idx [511, 515, 595, 507, 590, 586] (by decide +kernel)
def tb_iL : MethodName := ⟨"java/lang/AbstractStringBuilder", "isLatin1", "()Z"⟩
theorem tb_sl : Cond.selects RJ4 tb_iL tb_iL ∈ lw_tbl := List.mem_of_getElem? (i := 547) (by decide +kernel)
theorem tb_pc : ∀ y ∈ tb_py, y.cls = tb_iL.cls ∧ y.cls ≠ "java/lang/invoke/MethodHandle" ∧ y.cls ≠ "java/lang/invoke/VarHandle" := by decide +kernel
/-- a private method of a superclass is selected by itself -/
theorem st_priv {C : String} {y z : MethodName} {s : State} {args : Array Value} {n : Nat} (hy : y.cls ≠ "java/lang/invoke/MethodHandle" ∧ y.cls ≠ "java/lang/invoke/VarHandle") (hins : (Cond.instantiable C n).before args s = true) (hz : (Cond.selects C z z).before args s = true) (hzc : y.cls = z.cls)
    (hpriv : (Cond.privateMethod y).before args s = true) (hinst : (Cond.instanceMethod y).before args s = true) : (Cond.selects C y y).before args s = true := by
  obtain ⟨c, k, hc, hk, -, hniab, -, -⟩ := Cond.instantiable_spec hins
  obtain ⟨mk, methM, hnamed, hmethM, -, -⟩ := Cond.instanceMethod_spec hinst
  have hfound : s.methodFound? y.cls y.name y.desc = some mk := State.methodFound?_of_named hnamed hy
  obtain ⟨c', r', m', g1, g2, g3, g4, kk, g5, g6⟩ := Cond.selects_spec hz
  have h1 := findClass_of_methodNamed hnamed
  rw [hzc] at h1
  have hm : m'.cls = mk.cls := Option.some.inj ((findClass_of_methodNamed g3).symm.trans h1)
  have hsel : selectMethod {} s.vm c mk = .method mk := selectMethod_private hmethM (Cond.privateMethod_at hpriv mk methM hnamed hmethM)
  rw [hm] at g5
  simp only [Cond.before, Cond.holds, Cond.value, hc, hfound, hnamed, hsel, g5]
  simp; exact g6
theorem st_big {s : State} {args : Array Value} (ht : ∀ w ∈ lw_tbl, w.before args s = true) : ∀ w ∈ ab_big, w.before args s = true := by
  intro w hw
  rcases List.mem_append.mp (List.mem_filter.mp hw).1 with h | h
  · exact ht w h
  · obtain ⟨y, hy, rfl⟩ := List.mem_map.mp h
    obtain ⟨p1, p2⟩ := tb_pc y hy
    exact st_priv p2 (ht _ (tb_is (.instantiable "java/lang/StringBuilder" 4) (List.mem_of_getElem? (i := 6) rfl))) (ht _ tb_sl) p1 (ht _ (tb_pp _ (List.mem_map.mpr ⟨y, hy, rfl⟩))) (ht _ (tb_pi _ (List.mem_map.mpr ⟨y, hy, rfl⟩)))
section ST
variable {args : Array Value} {s : State} {A : Nat → Prop}
theorem st_str (hs : ∀ w ∈ nar, w.before args s = true) (hA : ∀ a : Nat, a < s.heap.size → ¬ A a) {x : st_L} (hx : x ∈ ab_lits) : ∃ q : Nat × Nat, (st_tm x).eval args s none [] s = some (.ref q.1) ∧ va_O RJ0 q.1 A s s.heap ∧ va_OF RJ0 "value" "[B" (.ref q.2) q.1 A s s.heap ∧ va_OF RJ0 "coder" "B" (.int 0) q.1 A s s.heap ∧ va_T .byte q.2 x.2.2.2.length (fun j => .int (x.2.2.2.getD j 0)) A s s.heap := by
  have hm : ∀ w ∈ st_ws x, w.before args s = true := fun w hw => hs w (st_in hx w hw)
  have he : (Cond.exactly (st_tm x) "java/lang/String").before args s = true := hm _ (List.mem_append_left _ (List.mem_of_getElem? (i := 0) rfl))
  have hc : (Cond.eq (.field (st_tm x) "java/lang/String" "coder" "B") (.int 0)).before args s = true := hm _ (List.mem_append_left _ (List.mem_of_getElem? (i := 1) rfl))
  have ha : (Cond.arrayOf (st_vl x) .byte).before args s = true := hm _ (List.mem_append_left _ (List.mem_of_getElem? (i := 2) rfl))
  have hl : (Cond.eq (.length (st_vl x)) (.int (Int32.ofNat x.2.2.2.length))).before args s = true := hm _ (List.mem_append_left _ (List.mem_of_getElem? (i := 3) rfl))
  have hel : ∀ j : Nat, j < x.2.2.2.length → (Cond.eq (.elem (st_vl x) (.int (Int32.ofNat j))) (.int (x.2.2.2.getD j 0))).before args s = true := fun j hj => hm _ (List.mem_append_right _ (List.mem_map.mpr ⟨j, List.mem_range.mpr hj, rfl⟩))
  obtain ⟨a, c, cA, kA, q1, q2, q3, q4, q5, q6, -⟩ := Cond.exactly_spec (args := args) (first := s) (o := none) (s := s) (idx := []) (t := st_tm x) (cls := "java/lang/String") he
  obtain ⟨t, ht, hT⟩ := va_Tof (f := fun j => .int (x.2.2.2.getD j 0)) (A := A) (st_len x hx) ha (va_eqt hl) (fun j hj => va_eqt (hel j hj)) hA
  exact ⟨(a, t), q1, va_Oof he q1 hA, vk_OFof q1 ht hA, vk_OFof q1 (va_eqt hc) hA, hT⟩
theorem st_strs (hs : ∀ w ∈ nar, w.before args s = true) (hA : ∀ a : Nat, a < s.heap.size → ¬ A a) : ∃ sa : Nat → Nat × Nat, ∀ (j : Nat) (x : st_L), ab_lits[j]? = some x → (st_tm x).eval args s none [] s = some (.ref (sa j).1) ∧ va_O RJ0 (sa j).1 A s s.heap ∧ va_OF RJ0 "value" "[B" (.ref (sa j).2) (sa j).1 A s s.heap ∧ va_OF RJ0 "coder" "B" (.int 0) (sa j).1 A s s.heap ∧ va_T .byte (sa j).2 x.2.2.2.length (fun j => .int (x.2.2.2.getD j 0)) A s s.heap := by
  have h0 : ∀ j : Nat, ∃ q : Nat × Nat, ∀ x : st_L, ab_lits[j]? = some x → (st_tm x).eval args s none [] s = some (.ref q.1) ∧ va_O RJ0 q.1 A s s.heap ∧ va_OF RJ0 "value" "[B" (.ref q.2) q.1 A s s.heap ∧ va_OF RJ0 "coder" "B" (.int 0) q.1 A s s.heap ∧ va_T .byte q.2 x.2.2.2.length (fun j => .int (x.2.2.2.getD j 0)) A s s.heap := by
    intro j
    cases h : ab_lits[j]? with
    | none => exact ⟨(0, 0), fun x hx => by cases hx⟩
    | some y =>
      obtain ⟨q, hq⟩ := st_str hs hA (List.mem_of_getElem? h)
      exact ⟨q, fun x hx => by cases hx; exact hq⟩
  obtain ⟨f, hf⟩ := Classical.axiomOfChoice h0
  exact ⟨f, hf⟩
theorem kq_one (hs : ∀ w ∈ nar, w.before args s = true) (hA : ∀ a : Nat, a < s.heap.size → ¬ A a) {i : Nat} (hi : i < 18) : ∃ a : Nat, (kq_tm i).eval args s none [] s = some (.ref a) ∧ va_O "ValveRoom$Keyword" a A s s.heap ∧ va_OF "java/lang/Enum" "ordinal" "I" (.int (Int32.ofNat i)) a A s s.heap ∧
    (∀ b : Nat, (kq_st (kq_li i)).eval args s none [] s = some (.ref b) → va_OF "ValveRoom$Keyword" "spelling" "Ljava/lang/String;" (.ref b) a A s s.heap) ∧ (Term.elem kq_KW (.int (Int32.ofNat i))).eval args s none [] s = some (.ref a) := by
  have hm : ∀ w ∈ kq_ws i, w.before args s = true := fun w hw => hs w (kq_in w (List.mem_flatMap.mpr ⟨i, List.mem_range.mpr hi, hw⟩))
  have he : (Cond.exactly (kq_tm i) "ValveRoom$Keyword").before args s = true := hm _ (List.mem_of_getElem? (i := 0) rfl)
  obtain ⟨a, c, cA, kA, q1, q2, q3, q4, q5, q6, -⟩ := Cond.exactly_spec (args := args) (first := s) (o := none) (s := s) (idx := []) (t := kq_tm i) (cls := "ValveRoom$Keyword") he
  have h1 : (Cond.eq (.field (kq_tm i) "java/lang/Enum" "ordinal" "I") (.int (Int32.ofNat i))).before args s = true := hm _ (List.mem_of_getElem? (i := 1) rfl)
  have h2 : (Cond.eq (.field (kq_tm i) "ValveRoom$Keyword" "spelling" "Ljava/lang/String;") (kq_st (kq_li i))).before args s = true := hm _ (List.mem_of_getElem? (i := 2) rfl)
  have h3 : (Cond.eq (.elem kq_KW (.int (Int32.ofNat i))) (kq_tm i)).before args s = true := hm _ (List.mem_of_getElem? (i := 3) rfl)
  exact ⟨a, q1, va_Oof he q1 hA, vk_OFof q1 (va_eqt h1) hA, fun b hb => vk_OFof q1 (va_eqv h2 hb) hA, va_eqv h3 q1⟩
theorem kq_all18 (hs : ∀ w ∈ nar, w.before args s = true) (hA : ∀ a : Nat, a < s.heap.size → ¬ A a) : ∃ ka : Nat → Nat, (∀ i : Nat, i < 18 → (kq_tm i).eval args s none [] s = some (.ref (ka i)) ∧ va_O "ValveRoom$Keyword" (ka i) A s s.heap ∧ va_OF "java/lang/Enum" "ordinal" "I" (.int (Int32.ofNat i)) (ka i) A s s.heap ∧
    (∀ b : Nat, (kq_st (kq_li i)).eval args s none [] s = some (.ref b) → va_OF "ValveRoom$Keyword" "spelling" "Ljava/lang/String;" (.ref b) (ka i) A s s.heap) ∧ (Term.elem kq_KW (.int (Int32.ofNat i))).eval args s none [] s = some (.ref (ka i))) ∧ ∀ i j : Nat, i < 18 → j < 18 → ka i = ka j → i = j := by
  have h0 : ∀ i : Nat, ∃ a : Nat, i < 18 → (kq_tm i).eval args s none [] s = some (.ref a) ∧ va_O "ValveRoom$Keyword" a A s s.heap ∧ va_OF "java/lang/Enum" "ordinal" "I" (.int (Int32.ofNat i)) a A s s.heap ∧
    (∀ b : Nat, (kq_st (kq_li i)).eval args s none [] s = some (.ref b) → va_OF "ValveRoom$Keyword" "spelling" "Ljava/lang/String;" (.ref b) a A s s.heap) ∧ (Term.elem kq_KW (.int (Int32.ofNat i))).eval args s none [] s = some (.ref a) := by
    intro i
    by_cases hi : i < 18
    · obtain ⟨a, ha⟩ := kq_one hs hA hi
      exact ⟨a, fun _ => ha⟩
    · exact ⟨0, fun h => absurd h hi⟩
  obtain ⟨ka, hka⟩ := Classical.axiomOfChoice h0
  refine ⟨ka, hka, fun i j hi hj e => ?_⟩
  by_cases hij : i = j
  · exact hij
  · rcases kq_all hi hj hij with h | h
    · exact absurd e (va_neR (hs _ (kq_ne _ (List.mem_map.mpr ⟨(i, j), h, rfl⟩))) (hka i hi).1 (hka j hj).1)
    · exact absurd e.symm (va_neR (hs _ (kq_ne _ (List.mem_map.mpr ⟨(j, i), h, rfl⟩))) (hka j hj).1 (hka i hi).1)
theorem ar_one {tm : Term} {vs : List Int32} {ty : FieldType} (hN : vs.length < 2 ^ 31) (hm : ∀ w ∈ ar_ws tm vs ty, w.before args s = true) (hA : ∀ a : Nat, a < s.heap.size → ¬ A a) : ∃ t : Nat, tm.eval args s none [] s = some (.ref t) ∧ va_T ty t vs.length (fun j => .int (vs.getD j 0)) A s s.heap := by
  have h0 : (Cond.arrayOf tm ty).before args s = true := hm _ (List.mem_append_left _ (List.mem_of_getElem? (i := 0) rfl))
  have h1 : (Cond.eq (.length tm) (.int (Int32.ofNat vs.length))).before args s = true := hm _ (List.mem_append_left _ (List.mem_of_getElem? (i := 1) rfl))
  have hel : ∀ j : Nat, j < vs.length → (Cond.eq (.elem tm (.int (Int32.ofNat j))) (.int (vs.getD j 0))).before args s = true := fun j hj => hm _ (List.mem_append_right _ (List.mem_map.mpr ⟨j, List.mem_range.mpr hj, rfl⟩))
  exact va_Tof (f := fun j => .int (vs.getD j 0)) hN h0 (va_eqt h1) (fun j hj => va_eqt (hel j hj)) hA
theorem va_T_cg {ty : FieldType} {t N : Nat} {f g : Nat → Value} {U : State} {H : Heap} (h : va_T ty t N f A U H) (e : ∀ j : Nat, j < N → f j = g j) : va_T ty t N g A U H := by
  obtain ⟨cell, h1, h2, h3, h4, h5, h6, h7⟩ := h
  exact ⟨cell, h1, h2, h3, h4, h5, fun j hj => by rw [← e j hj]; exact h6 j hj, h7⟩
end ST
/-- the constants' addresses -/
def st_al (sa : Nat → Nat × Nat) (ka ar : Nat → Nat) (fm b : Nat) : Nat → Nat := fun k =>
  if k - ab_CB < 112 then (if (k - ab_CB) % 2 = 0 then (sa ((k - ab_CB) / 2)).1 else (sa ((k - ab_CB) / 2)).2) else if k - ab_CB < 130 then ka (k - ab_CB - 112) else if k - ab_CB < 134 then ar (k - ab_CB - 130) else if k - ab_CB = 134 then fm else b
section AL
variable {sa : Nat → Nat × Nat} {ka ar : Nat → Nat} {fm b : Nat}
theorem al_s {j : Nat} (hj : j < 56) : st_al sa ka ar fm b (ab_CB + 2 * j) = (sa j).1 := by
  unfold st_al
  rw [show ab_CB + 2 * j - ab_CB = 2 * j by omega, if_pos (by omega), if_pos (by omega), show 2 * j / 2 = j by omega]
theorem al_v {j : Nat} (hj : j < 56) : st_al sa ka ar fm b (ab_CB + (2 * j + 1)) = (sa j).2 := by
  unfold st_al
  rw [show ab_CB + (2 * j + 1) - ab_CB = 2 * j + 1 by omega, if_pos (by omega), if_neg (by omega), show (2 * j + 1) / 2 = j by omega]
theorem al_k {i : Nat} (hi : i < 18) : st_al sa ka ar fm b (ab_CB + (112 + i)) = ka i := by
  unfold st_al
  rw [show ab_CB + (112 + i) - ab_CB = 112 + i by omega, if_neg (by omega), if_pos (by omega), show 112 + i - 112 = i by omega]
theorem al_a {i : Nat} (hi : i < 4) : st_al sa ka ar fm b (ab_CB + (130 + i)) = ar i := by
  unfold st_al
  rw [show ab_CB + (130 + i) - ab_CB = 130 + i by omega, if_neg (by omega), if_neg (by omega), if_pos (by omega), show 130 + i - 130 = i by omega]
theorem al_f : st_al sa ka ar fm b (ab_CB + 134) = fm := by
  unfold st_al
  rw [show ab_CB + 134 - ab_CB = 134 by omega, if_neg (by omega), if_neg (by omega), if_neg (by omega), if_pos rfl]
theorem al_b : st_al sa ka ar fm b (ab_CB + 500000) = b := by
  unfold st_al
  rw [show ab_CB + 500000 - ab_CB = 500000 by omega, if_neg (by omega), if_neg (by omega), if_neg (by omega), if_neg (by omega)]
end AL
theorem kq_l56 {i : Nat} (hi : i < 18) : kq_li i < 56 := by
  have h : ((List.range 18).all fun i => decide (kq_li i < 56)) = true := by decide +kernel
  exact of_decide_eq_true (List.all_eq_true.mp h i (List.mem_range.mpr hi))
theorem st_l56 : ab_lits.length = 56 := rfl
theorem st_get {j : Nat} (hj : j < 56) : ∃ x, ab_lits[j]? = some x := ⟨_, List.getElem?_eq_getElem (by rw [st_l56]; exact hj)⟩
theorem kc_s {j : Nat} (hj : j < 56) : ab_kc (2 * j) = .inr (9, [.ref (ab_CB + (2 * j + 1)), .int 0]) := by
  unfold ab_kc
  rw [if_pos (by omega), if_pos (by omega)]
theorem kc_v {j : Nat} (hj : j < 56) : ab_kc (2 * j + 1) = .inl (1, ((ab_ks j).length, .inl (fun i => (ab_ks j).getD i 0))) := by
  unfold ab_kc
  rw [if_pos (by omega), if_neg (by omega), show (2 * j + 1) / 2 = j by omega]
set_option maxHeartbeats 4000000 in
/-- THE CONSTANTS' CONTEXT -/
theorem ab_Cn_of {args : Array Value} {s : State} (hs : ∀ w ∈ nar, w.before args s = true) (ht : ∀ w ∈ lw_tbl, w.before args s = true) {D : va_G} {T : Nat → ClassId} {b : Nat} (hT : T 1000 = b) : ∃ α : Nat → Nat, ab_Cn s.heap.size D T α s s.heap ∧ α (ab_CB + 500000) = b := by
  have hA : ∀ a : Nat, a < s.heap.size → ¬ ab_A s.heap.size a := fun a h z => Nat.lt_irrefl _ (Nat.lt_of_lt_of_le h z)
  have hot : ∀ (i : Nat) (w : Cond), ot_ws[i]? = some w → w.before args s = true := fun i w h => hs w (ot_in w (List.mem_of_getElem? h))
  have how : ∀ (i : Nat) (w : Cond), tb_ow[i]? = some w → w.before args s = true := fun i w h => ht w (tb_ot w (List.mem_of_getElem? h))
  obtain ⟨sa, hsa⟩ := st_strs hs hA
  obtain ⟨ka, hka, hne⟩ := kq_all18 hs hA
  obtain ⟨t0, hK0, hKT⟩ := va_Tof (tm := kq_KW) (ty := .object "ValveRoom$Keyword") (N := 18) (f := fun j => .ref (ka j)) (A := ab_A s.heap.size) (by decide) (hot 0 _ rfl) (va_eqt (hot 1 _ rfl)) (fun j hj => (hka j hj).2.2.2.2) hA
  obtain ⟨t1, hS0, hST⟩ := ar_one (A := ab_A s.heap.size) (tm := ar_SW) (vs := ab_sw) (ty := .int) (by decide) (fun w hw => hs w (ar_inSW w hw)) hA
  obtain ⟨t2, hO0, hOT⟩ := ar_one (A := ab_A s.heap.size) (tm := ar_DO) (vs := ab_do) (ty := .byte) (by decide) (fun w hw => hs w (ar_inDO w hw)) hA
  obtain ⟨t3, hD0, hDT⟩ := ar_one (A := ab_A s.heap.size) (tm := ar_DT) (vs := ab_dt) (ty := .byte) (by decide) (fun w hw => hs w (ar_inDT w hw)) hA
  have hfm : ∃ (fm : Nat) (w : Value), (w = Value.null ∨ w = Value.ref (ab_CB + 134)) ∧ ∀ α : Nat → Nat, α (ab_CB + 134) = fm → va_Z "jdk/internal/util/Preconditions" "SIOOBE_FORMATTER" "Ljava/util/function/BiFunction;" (ab_cv α w) (ab_A s.heap.size) s s.heap := by
    rcases va_Zqof (A := ab_A s.heap.size) (how 3 _ rfl) (how 4 _ rfl) (hot 7 _ rfl) hA with h | ⟨t, h⟩
    · exact ⟨0, .null, Or.inl rfl, fun α _ => h⟩
    · refine ⟨t, .ref (ab_CB + 134), Or.inr rfl, fun α e => ?_⟩
      show va_Z _ _ _ (.ref (α (ab_CB + 134))) _ _ _
      rw [e]
      exact h
  obtain ⟨fm, w0, hw0, hfm⟩ := hfm
  obtain ⟨ar, har⟩ : ∃ ar : Nat → Nat, ar 0 = t0 ∧ ar 1 = t1 ∧ ar 2 = t2 ∧ ar 3 = t3 := ⟨fun i => if i = 0 then t0 else if i = 1 then t1 else if i = 2 then t2 else t3, rfl, rfl, rfl, rfl⟩
  have a0 : st_al sa ka ar fm b (ab_CB + 130) = t0 := (al_a (i := 0) (by decide)).trans har.1
  have a1 : st_al sa ka ar fm b (ab_CB + 131) = t1 := (al_a (i := 1) (by decide)).trans har.2.1
  have a2 : st_al sa ka ar fm b (ab_CB + 132) = t2 := (al_a (i := 2) (by decide)).trans har.2.2.1
  have a3 : st_al sa ka ar fm b (ab_CB + 133) = t3 := (al_a (i := 3) (by decide)).trans har.2.2.2
  have hkw : ∀ i : Nat, i < 18 → (kq_tm i).eval args s none [] s = some (.ref (st_al sa ka ar fm b (ab_CB + (112 + i)))) := fun i hi => by rw [al_k hi]; exact (hka i hi).1
  refine ⟨st_al sa ka ar fm b, ⟨fun i hi1 hi => ?_, fun i hi => ?_, fun i j hi hj e => ?_, fun q hq => ?_, fun j q hq => ?_, ⟨vx_Zqof (how 0 _ rfl) (how 1 _ rfl) (hot 5 _ rfl) hA, vx_Zqof (how 2 _ rfl) (how 1 _ rfl) (hot 6 _ rfl) hA⟩, fun q hq => va_Nw.of rfl (ht _ (tb_nM _ (List.mem_map.mpr ⟨q, hq, rfl⟩))), fun q hq => va_Nw.of rfl (ht _ (tb_nF _ (List.mem_map.mpr ⟨q, hq, rfl⟩))), fun q hq => va_Nw.of rfl (ht _ (tb_nC _ (List.mem_map.mpr ⟨q, hq, rfl⟩))),
    fun q hq => va_AO.of (ht _ (tb_nO _ (List.mem_map.mpr ⟨q, hq, rfl⟩))), fun q hq => va_Nc.of (hs _ (tb_nN _ (List.mem_map.mpr ⟨q, hq, rfl⟩))), fun x hx => va_Nw.of rfl (ht _ (tb_nD _ (List.mem_map.mpr ⟨x, hx, rfl⟩))), al_b.trans hT.symm, w0, hw0, hfm _ al_f⟩, al_b⟩
  · by_cases h112 : i < 112
    · obtain ⟨j, hj⟩ : ∃ j, i = 2 * j ∨ i = 2 * j + 1 := ⟨i / 2, by omega⟩
      have hj56 : j < 56 := by omega
      obtain ⟨x, hx⟩ := st_get hj56
      obtain ⟨x1, x2, x3, x4, x5⟩ := hsa j x hx
      rcases hj with rfl | rfl
      · rw [kc_s hj56]
        refine ⟨rfl, by rw [al_s hj56]; exact x2, fun k v hk hv => ?_⟩
        match k, hk with
        | 0, _ =>
          cases hv
          show va_OF RJ0 "value" "[B" (.ref (st_al sa ka ar fm b (ab_CB + (2 * j + 1)))) (st_al sa ka ar fm b (ab_CB + 2 * j)) _ s s.heap
          rw [al_s hj56, al_v hj56]
          exact x3
        | 1, _ =>
          cases hv
          show va_OF RJ0 "coder" "B" (.int 0) (st_al sa ka ar fm b (ab_CB + 2 * j)) _ s s.heap
          rw [al_s hj56]
          exact x4
      · rw [kc_v hj56]
        have e : ab_ks j = x.2.2.2 := by unfold ab_ks; rw [hx]; rfl
        refine ⟨.byte, rfl, ?_⟩
        rw [al_v hj56, e]
        exact x5
    · have hN : i < 134 := hi
      rcases (show i = 130 ∨ i = 131 ∨ i = 132 ∨ i = 133 by omega) with rfl | rfl | rfl | rfl
      · refine ⟨.object "ValveRoom$Keyword", rfl, ?_⟩
        rw [a0]
        refine va_T_cg hKT (fun j hj => ?_)
        show Value.ref (ka j) = Value.ref (st_al sa ka ar fm b (ab_CB + (112 + j)))
        rw [al_k hj]
      · refine ⟨.int, rfl, ?_⟩
        rw [a1]
        exact hST
      · refine ⟨.byte, rfl, ?_⟩
        rw [a2]
        exact hOT
      · refine ⟨.byte, rfl, ?_⟩
        rw [a3]
        exact hDT
  · have h56 := kq_l56 hi
    obtain ⟨x, hx⟩ := st_get h56
    have e : kq_st (kq_li i) = st_tm x := by unfold kq_st; rw [hx]; rfl
    obtain ⟨k1, k2, k3, k4, k5⟩ := hka i hi
    rw [al_k hi]
    refine ⟨k2, k3, ?_⟩
    show va_OF _ _ _ (.ref (st_al sa ka ar fm b (ab_CB + 2 * kq_li i))) _ _ _ _
    rw [al_s h56]
    exact k4 _ (by rw [e]; exact (hsa _ x hx).1)
  · rw [al_k hi, al_k hj] at e
    exact hne i j hi hj e
  · have hz : (Term.static q.1 q.2.1 q.2.2.1).eval args s none [] s = some (ab_cv (st_al sa ka ar fm b) q.2.2.2) → va_Z q.1 q.2.1 q.2.2.1 (ab_cv (st_al sa ka ar fm b) q.2.2.2) (ab_A s.heap.size) s s.heap := fun hv => va_Zof (ht _ (tb_ls _ (List.mem_map.mpr ⟨q, hq, rfl⟩))) (ht _ (tb_in _ (List.mem_map.mpr ⟨q, hq, rfl⟩))) hv hA
    refine hz ?_
    clear hz
    simp only [ab_st, List.mem_cons, List.not_mem_nil, or_false] at hq
    rcases hq with rfl | rfl | rfl | rfl | rfl | rfl | rfl | rfl | rfl | rfl | rfl | rfl | rfl | rfl | rfl | rfl | rfl | rfl | rfl | rfl | rfl | rfl | rfl | rfl | rfl
    · exact va_eqt (hot 2 _ rfl)
    · exact va_eqt (hot 3 _ rfl)
    · exact va_eqt (hot 4 _ rfl)
    · show _ = some (Value.ref (st_al sa ka ar fm b (ab_CB + 130)))
      rw [a0]; exact hK0
    · show _ = some (Value.ref (st_al sa ka ar fm b (ab_CB + 131)))
      rw [a1]; exact hS0
    · show _ = some (Value.ref (st_al sa ka ar fm b (ab_CB + 132)))
      rw [a2]; exact hO0
    · show _ = some (Value.ref (st_al sa ka ar fm b (ab_CB + 133)))
      rw [a3]; exact hD0
    · exact hkw 0 (by decide)
    · exact hkw 1 (by decide)
    · exact hkw 2 (by decide)
    · exact hkw 3 (by decide)
    · exact hkw 4 (by decide)
    · exact hkw 5 (by decide)
    · exact hkw 6 (by decide)
    · exact hkw 7 (by decide)
    · exact hkw 8 (by decide)
    · exact hkw 9 (by decide)
    · exact hkw 10 (by decide)
    · exact hkw 11 (by decide)
    · exact hkw 12 (by decide)
    · exact hkw 13 (by decide)
    · exact hkw 14 (by decide)
    · exact hkw 15 (by decide)
    · exact hkw 16 (by decide)
    · exact hkw 17 (by decide)
  · have hj : j < 56 := by
      have := (List.getElem?_eq_some_iff.mp hq).1
      rwa [st_l56] at this
    rw [al_s hj]
    exact vk_R.of (ht _ (st_ref _ (List.mem_map.mpr ⟨q, List.mem_of_getElem? hq, rfl⟩))) (hsa j q hq).1
/-- THE CLASSES -/
theorem ab_K_of {args : Array Value} {s : State} (ht : ∀ w ∈ lw_tbl, w.before args s = true) (b : Nat) : ∃ (D : va_G) (T : Nat → ClassId), va_K D ab_cl (ab_tys T) s ∧ T 1000 = b := by
  have hb := st_big ht
  have hin : ∀ (i : Nat) (w : Cond), tb_iw[i]? = some w → w.before args s = true := fun i w h => ht w (tb_is w (List.mem_of_getElem? h))
  have hJ2 : ∀ w ∈ u_ws RJ0 TJ0 2, w ∈ ab_big := fun w hw => inB_J0 w (by
    obtain ⟨k, hk, e⟩ := List.mem_map.mp hw
    exact List.mem_map.mpr ⟨k, List.mem_range.mpr (by have := List.mem_range.mp hk; omega), e⟩)
  obtain ⟨z0, i0, h0⟩ := u_known hb inB_X6 (hin 0 _ rfl)
  obtain ⟨z1, i1, h1⟩ := u_known hb inB_X3 (hin 1 _ rfl)
  obtain ⟨z2, i2, h2⟩ := u_known hb inB_X1 (hin 2 _ rfl)
  obtain ⟨z3, i3, h3⟩ := u_known hb inB_X4 (hin 3 _ rfl)
  obtain ⟨z4, i4, h4⟩ := u_known hb inB_X5 (hin 4 _ rfl)
  obtain ⟨z6, i6, h6⟩ := u_known hb inB_J0 (hin 5 _ rfl)
  obtain ⟨z7, i7, h7⟩ := u_known hb inB_J4 (hin 6 _ rfl)
  obtain ⟨z8, i8, h8⟩ := u_known hb hJ2 (hin 5 _ rfl)
  have hc : ∀ c : Nat, ∃ z : ClassId × (Nat → Nat), ∀ q : vw_C, ab_cl[c]? = some q → u_Kn s q.1 q.2.1 q.2.2 z.1 z.2 := by
    intro c
    match c with
    | 0 => exact ⟨(z0, i0), fun q hq => by cases hq; exact h0⟩
    | 1 => exact ⟨(z1, i1), fun q hq => by cases hq; exact h1⟩
    | 2 => exact ⟨(z2, i2), fun q hq => by cases hq; exact h2⟩
    | 3 => exact ⟨(z3, i3), fun q hq => by cases hq; exact h3⟩
    | 4 => exact ⟨(z4, i4), fun q hq => by cases hq; exact h4⟩
    | 5 => exact ⟨(z8, i8), fun q hq => by cases hq; exact h8⟩
    | 6 => exact ⟨(z6, i6), fun q hq => by cases hq; exact h6⟩
    | 7 => exact ⟨(z7, i7), fun q hq => by cases hq; exact h7⟩
    | 8 => exact ⟨(z8, i8), fun q hq => by cases hq; exact h8⟩
    | 9 => exact ⟨(z8, i8), fun q hq => by cases hq; exact h8⟩
    | c + 10 => exact ⟨(z0, i0), fun q hq => absurd (List.getElem?_eq_some_iff.mp hq).1 (by show ¬ c + 10 < 10; omega)⟩
  obtain ⟨zf, hz⟩ := Classical.axiomOfChoice hc
  have hpr : ∀ (ty : FieldType), (Cond.arrayClass ty).before args s = true → (∀ C, ty ≠ .object C) → ∃ cA : ClassId, ArrOfT s cA ty ∧ s.vm.findClass ("[" ++ ty.toString) = some cA := fun ty h hno => by
    obtain ⟨c, k, comp, g1, g2, g3⟩ := Cond.arrayClass_spec h
    exact ⟨c, fun n z => ⟨fun k h => (by cases h), k, g2, comp, g3⟩, g1⟩
  have hob : ∀ (C : String), (Cond.arrayOver (.object C)).before args s = true → ∃ cA : ClassId, ArrOfT s cA (.object C) ∧ va_RA s cA (.object C) := fun C h => by
    obtain ⟨comp, c, k, g1, -, g2, g3, g4⟩ := Cond.arrayOver_spec h
    exact ⟨c, fun n z => ⟨fun k h => (by cases h), k, g2, comp, g3⟩, k, comp, g2, g3, g1, g4⟩
  have har : ∀ (i : Nat) (w : Cond), tb_aw[i]? = some w → w.before args s = true := fun i w h => ht w (tb_ar w (List.mem_of_getElem? h))
  obtain ⟨c0, p0, r0⟩ := hpr .int (har 0 _ rfl) (fun C h => by cases h)
  obtain ⟨c1, p1, r1⟩ := hpr .byte (har 1 _ rfl) (fun C h => by cases h)
  obtain ⟨c2, p2, r2⟩ := hpr .boolean (har 2 _ rfl) (fun C h => by cases h)
  obtain ⟨c3, p3, r3⟩ := hpr .char (har 3 _ rfl) (fun C h => by cases h)
  obtain ⟨c6, p6, r6⟩ := hob "ValveRoom$House" (ht _ (tb_nO _ (List.mem_of_getElem? (i := 0) rfl)))
  obtain ⟨c7, p7, r7⟩ := hob "ValveRoom$Room" (ht _ (tb_nO _ (List.mem_of_getElem? (i := 1) rfl)))
  obtain ⟨c8, p8, r8⟩ := hob "ValveRoom$Keyword" (ht _ (tb_nO _ (List.mem_of_getElem? (i := 2) rfl)))
  have htl : ∀ k : Nat, ∃ cA : ClassId, ∀ ty, ab_tl[k]? = some ty → ArrOfT s cA ty ∧ va_RA s cA ty := by
    intro k
    match k with
    | 0 => exact ⟨c0, fun q hq => by cases hq; exact ⟨p0, r0⟩⟩
    | 1 => exact ⟨c1, fun q hq => by cases hq; exact ⟨p1, r1⟩⟩
    | 2 => exact ⟨c2, fun q hq => by cases hq; exact ⟨p2, r2⟩⟩
    | 3 => exact ⟨c3, fun q hq => by cases hq; exact ⟨p3, r3⟩⟩
    | 4 => exact ⟨c0, fun q hq => by cases hq; exact ⟨p0, r0⟩⟩
    | 5 => exact ⟨c0, fun q hq => by cases hq; exact ⟨p0, r0⟩⟩
    | 6 => exact ⟨c6, fun q hq => by cases hq; exact ⟨p6, r6⟩⟩
    | 7 => exact ⟨c7, fun q hq => by cases hq; exact ⟨p7, r7⟩⟩
    | 8 => exact ⟨c8, fun q hq => by cases hq; exact ⟨p8, r8⟩⟩
    | k + 9 => exact ⟨c0, fun q hq => absurd (List.getElem?_eq_some_iff.mp hq).1 (by show ¬ k + 9 < 9; omega)⟩
  obtain ⟨tf, htf⟩ := Classical.axiomOfChoice htl
  refine ⟨(fun c => (zf c).1, fun c => (zf c).2), fun k => if k = 1000 then b else tf k, ⟨fun c q hq => hz c q hq, fun k q hq => ?_⟩, rfl⟩
  unfold ab_tys at hq
  rw [List.getElem?_map, List.getElem?_zipIdx] at hq
  cases hty : ab_tl[k]? with
  | none => rw [hty] at hq; cases hq
  | some ty =>
    rw [hty] at hq
    have hk : k < 9 := (List.getElem?_eq_some_iff.mp hty).1
    have hq' : q = ((if 0 + k = 1000 then b else tf (0 + k)), ty) := by
      have := Option.some.inj hq
      exact this.symm
    subst hq'
    rw [Nat.zero_add, if_neg (by omega)]
    exact htf k ty hty
