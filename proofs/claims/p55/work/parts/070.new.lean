/-! THE ABSTRACT JUDGEMENT: making objects and arrays. -/
theorem ab_Cn.ag {base : Nat} {D : va_G} {T : Nat → ClassId} {α α' : Nat → Nat} {U : State} {H : Heap} (h : ab_Cn base D T α U H) (hag : ∀ k, ab_CB ≤ k → α' k = α k) : ab_Cn base D T α' U H := by
  have hA : ab_Ag 0 α α' := fun k hk => hag k (by unfold ab_rk at hk; omega)
  obtain ⟨h1, h2, h3, h4, h5, h6, h7, h8, h9, h10, h11, hd, hsc, w, hw, h12⟩ := h
  refine ⟨fun i hi1 hi => ?_, fun i hi => ?_, fun i j hi hj he => ?_, fun q hq => ?_, fun j q hq => ?_, h6, h7, h8, h9, h10, h11, hd, (hag _ (Nat.le_add_right _ _)).trans hsc, w, hw, ?_⟩
  · exact (h1 i hi1 hi).ag hag (Nat.le_add_right _ _) (ab_kc_w i)
  · rw [hag _ (by omega), hag _ (by omega)]
    exact h2 i hi
  · rw [hag _ (by omega), hag _ (by omega)] at he
    exact h3 i j hi hj he
  · have hv : ab_wv 0 q.2.2.2 := by
      simp only [ab_st, List.mem_cons, List.not_mem_nil, or_false] at hq
      rcases hq with rfl | rfl | rfl | rfl | rfl | rfl | rfl | rfl | rfl | rfl | rfl | rfl | rfl | rfl | rfl | rfl | rfl | rfl | rfl | rfl | rfl | rfl | rfl | rfl | rfl <;> first | trivial | exact Or.inr (by omega)
    rw [ab_cv_ag hA hv]
    exact h4 q hq
  · rw [hag _ (by omega)]
    exact h5 j q hq
  · have hv : ab_wv 0 w := by
      rcases hw with rfl | rfl
      · trivial
      · exact Or.inr (by omega)
    rw [ab_cv_ag hA hv]
    exact h12
section NW
variable {p : Program} {l : Launch} {e : Env} {R : Room} {s : State} {m : MethodId} {args : Array Value} {below : List Frame} {meth : Method} {c : Code} {base : Nat} {D : va_G} {T : Nat → ClassId} {cc : ByteArray} {nL : Nat} {Fin : State → Prop} {Q : ab_Q} {n n2 : Nat} {α α' : Nat → Nat}
theorem ab_Fr.mv (h : ab_Fr p l e R s m args below meth c base D T cc nL Fin Q n α) (hn : n ≤ n2) (hag : ab_Ag n α α') : ab_Fr p l e R s m args below meth c base D T cc nL Fin Q n2 α' :=
  fun ro n' h' α'' H' L' locs' k' z' pc' ins hQ hn' hag' => h ro n' h' α'' H' L' locs' k' z' pc' ins hQ (Nat.le_trans hn hn') (hag.tr hag' hn)
theorem ab_Ft.mv (h : ab_Ft p l e R s m args below meth c base D T Fin Q n α) (hn : n ≤ n2) (hag : ab_Ag n α α') : ab_Ft p l e R s m args below meth c base D T Fin Q n2 α' :=
  ⟨fun E n' h' α'' H' L' locs' k' z' pc' st' q ce hQ hn' hag' => h.1 E n' h' α'' H' L' locs' k' z' pc' st' q ce hQ (Nat.le_trans hn hn') (hag.tr hag' hn),
   fun E n' h' α'' H' L' locs' k' z' g hQ hn' hag' => h.2 E n' h' α'' H' L' locs' k' z' g hQ (Nat.le_trans hn hn') (hag.tr hag' hn)⟩
end NW
theorem ab_ext {n q : Nat} {α : Nat → Nat} (hn : n < ab_CB) : ab_Ag n α (fun k => if k = n then q else α k) := fun k hk => if_neg (fun z => by unfold ab_rk at hk; omega)
section NX
variable {Xx : ab_X} {own : String} {cc : ByteArray} {nL : Nat} {hh : List (Nat × Nat × Nat × Nat)} {R : Room} {Q : ab_Q} {k z pc : Nat} {ls : List (Option Value)} {st : List Value} {n : Nat} {h : ab_H}
/-- behind a making -/
theorem wa_made {pc' k' z' : Nat} {e0 : va_E} (hn1 : n + 1 < ab_CB) (hwe : ab_we n e0) (K : WX Xx own cc nL hh R Q k' z' pc' ls (.ref n :: st) (n + 1) (ab_up h n e0))
    {p : Program} {l : Launch} {e : Env} {s : State} {m : MethodId} {args : Array Value} {below : List Frame} {meth : Method} {c : Code} {base : Nat} {D : va_G} {T : Nat → ClassId} (C0 : ab_Ctx Xx own cc nL hh R p l s m args meth c base D T)
    {α : Nat → Nat} {H : Heap} {L : Array Slot} {Fin : State → Prop} (hC : ab_Cn base D T α s s.heap) (hW : ab_Wd base D T α n h H) (hL : ab_LR α nL ls L) (hs : ∀ v ∈ st, ab_wv n v) (hl : ∀ v, some v ∈ ls → ab_wv n v)
    (hF : ab_Fr p l e R s m args below meth c base D T cc nL Fin Q n α) (hT : ab_Ft p l e R s m args below meth c base D T Fin Q n α)
    (q : Nat) (H1 : Heap) (locs1 : List Loc) (hP1 : va_P D ab_cl (ab_wl α T n h ++ [(q, ab_ce α T e0)]) H1) (hD1 : va_D (ab_A base) (ab_wl α T n h ++ [(q, ab_ce α T e0)])) (hS1 : va_S (ab_A base) s.heap H1 locs1) :
    W p l e R s m args below meth c H1 locs1 k' z' Fin (F0 m pc' L (.ref q :: st.map (ab_cv α))) := by
  have hag : ab_Ag n α (fun k => if k = n then q else α k) := ab_ext (by omega)
  rw [ab_wl_push (by omega) (by omega) hW.2.2.1 hwe] at hP1 hD1
  have K1 := K p l e s m args below meth c base D T C0 (fun k => if k = n then q else α k) H1 L locs1 Fin (hC.ag (fun k hk => if_neg (by omega))) ⟨hP1, hD1, fun j hj => ?_, hn1⟩ (hL.ag hag hl) (ab_ws1 (v := .ref n) (Or.inl (Nat.lt_succ_self n)) (fun v hv => (hs v hv).mono (Nat.le_succ n))) (fun v hv => (hl v hv).mono (Nat.le_succ n)) hS1 (hF.mv (Nat.le_succ n) hag) (hT.mv (Nat.le_succ n) hag)
  · have hst : st.map (ab_cv (fun k => if k = n then q else α k)) = st.map (ab_cv α) := ab_map_ag hag hs
    have h2 : (Value.ref n :: st).map (ab_cv (fun k => if k = n then q else α k)) = .ref q :: st.map (ab_cv α) := by
      rw [List.map_cons, hst]
      show Value.ref (if n = n then q else α n) :: _ = _
      rw [if_pos rfl]
    rw [h2] at K1
    exact K1
  · by_cases hjn : j = n
    · subst hjn; rw [ab_up_s]; exact hwe.mono (Nat.le_succ _)
    · rw [ab_up_n _ _ hjn]; exact (hW.2.2.1 j (by omega)).mono (Nat.le_succ n)
theorem wa_new {ci index : Nat} {C : String} {T0 : u_T} {N : Nat} {fs : List Value} (ty0 : Nat → FieldType) (d : decode cc pc = .ok (.new index, 3)) (hlink : Cond.classLink own index C ∈ ab_big) (hinst : Cond.instantiable C N ∈ ab_big) (hini : Cond.initialized C ∈ ab_big) (hc : ab_cl[ci]? = some (C, T0, N)) (hin : ∀ w ∈ u_ws C T0 N, w ∈ ab_big)
    (hty : ∀ k, k < N → parseFieldDescriptor (T0 k).2.2.1 = some (ty0 k)) (hfs : ∀ j, j < N → defaultValue (ty0 j) = vp_V fs j) (hcv : ∀ α, fs.map (ab_cv α) = fs) (hwf : ∀ v ∈ fs, ab_wv 0 v) (hn1 : n + 1 < ab_CB) (hcells : k + 1 ≤ R.cells) (hslots : z + N ≤ R.slots)
    (K : WX Xx own cc nL hh R Q (k + 1) (z + N) (pc + 3) ls (.ref n :: st) (n + 1) (ab_up h n (.inr (ci, fs)))) : WX Xx own cc nL hh R Q k z pc ls st n h := by
  intro p l e s m args below meth c base D T C0 α H L locs Fin hC hW hL hs hl hS hF hT
  refine va_new C0.1 C0.2.1 C0.2.2.2.2.1 hin ty0 hty C0.2.2.2.1 (C0.2.2.2.2.1 _ hlink) (C0.2.2.2.2.1 _ hinst) (C0.2.2.2.2.1 _ hini) C0.2.2.2.2.2.1 hW.1 hW.2.1 hS (fun q hq => Nat.le_trans C0.2.2.2.2.2.2.1 hq) hc hfs hcells hslots d (fun q H1 hP1 hD1 hS1 => ?_)
  have hce : ab_ce α T (.inr (ci, fs)) = .inr (ci, fs) := by
    show Sum.inr (ci, fs.map (ab_cv α)) = _
    rw [hcv]
  rw [← hce] at hP1 hD1
  exact wa_made (e0 := .inr (ci, fs)) hn1 (show ab_we n (.inr (ci, fs)) from fun v hv => (hwf v hv).mono (Nat.zero_le _)) K C0 hC hW hL hs hl hF hT q H1 locs hP1 hD1 hS1
theorem wa_newa {atype : ArrayType} {ty : FieldType} {x : Int32} {len t : Nat} {a0 : vp_A} (d : decode cc pc = .ok (.newarray atype, 2)) (harr : Cond.arrayClass (newarray.typeOf atype) ∈ ab_big) (hty : newarray.typeOf atype = ty) (ht : ab_tl[t]? = some ty) (ht6 : t < 6) (hx : x.toInt = (len : Int))
    (ha : ∀ cA : ClassId, vp_cell cA a0 = arrV cA len (fun _ => defaultValue ty)) (hca : ∀ α, ab_ca α a0 = a0) (hwa : ab_wa 0 a0) (hbytes : len * componentBytes ty ≤ 536870912) (hn1 : n + 1 < ab_CB) (hcells : k + 1 ≤ R.cells) (hslots : z + len ≤ R.slots)
    (K : WX Xx own cc nL hh R Q (k + 1) (z + len) (pc + 2) ls (.ref n :: st) (n + 1) (ab_up h n (.inl (t, a0)))) : WX Xx own cc nL hh R Q k z pc ls (.int x :: st) n h := by
  intro p l e s m args below meth c base D T C0 α H L locs Fin hC hW hL hs hl hS hF hT
  have hx0 : ¬ x < 0 := by rw [Int32.lt_iff_toInt_lt, Int32.toInt_zero]; omega
  have hxn : x.toNatClampNeg = len := by show x.toInt.toNat = len; omega
  refine va_newa C0.1 C0.2.1 (C0.2.2.2.2.1 _ harr) hty C0.2.2.2.2.2.1 hW.1 hW.2.1 hS (fun q hq => Nat.le_trans C0.2.2.2.2.2.2.1 hq) ha hx0 hxn hbytes hcells hslots d (fun q cA H1 hK1 hP1 hD1 hS1 => ?_)
  have e1 : va_RA s cA ty := by
    have h9 := hK1.2 (ab_tys T).length (cA, ty) (by simp)
    exact h9.2
  have e2 : va_RA s (T t) ty := by
    refine (C0.2.2.2.2.2.1.2 t (T t, ty) ?_).2
    unfold ab_tys
    rw [List.getElem?_map, List.getElem?_zipIdx, ht]
    simp
  have e3 : cA = T t := by
    match t, ht6, ht with
    | 0, _, ht => cases ht; exact Option.some.inj (e1.symm.trans e2)
    | 1, _, ht => cases ht; exact Option.some.inj (e1.symm.trans e2)
    | 2, _, ht => cases ht; exact Option.some.inj (e1.symm.trans e2)
    | 3, _, ht => cases ht; exact Option.some.inj (e1.symm.trans e2)
    | 4, _, ht => cases ht; exact Option.some.inj (e1.symm.trans e2)
    | 5, _, ht => cases ht; exact Option.some.inj (e1.symm.trans e2)
  have hce : ab_ce α T (.inl (t, a0)) = .inl (cA, a0) := by
    show Sum.inl (T t, ab_ca α a0) = _
    rw [hca, e3]
  rw [← hce] at hP1 hD1
  exact wa_made hn1 (e0 := .inl (t, a0)) (ab_wa.mono hwa (Nat.zero_le _)) K C0 hC hW hL (ab_wst hs) hl hF hT q H1 locs hP1 hD1 hS1
theorem wa_newq {index t len : Nat} {C : String} {x : Int32} (d : decode cc pc = .ok (.anewarray index, 3)) (hlink : Cond.classLink own index C ∈ ab_big) (hover : C ∈ ab_nO) (ht : ab_tl[t]? = some (.object C)) (hx : x.toInt = (len : Int)) (hbytes : len * 4 ≤ 536870912) (hn1 : n + 1 < ab_CB) (hcells : k + 1 ≤ R.cells) (hslots : z + len ≤ R.slots)
    (K : WX Xx own cc nL hh R Q (k + 1) (z + len) (pc + 3) ls (.ref n :: st) (n + 1) (ab_up h n (.inl (t, len, .inr (.inr (.inr (.inr (fun _ => none)))))))) : WX Xx own cc nL hh R Q k z pc ls (.int x :: st) n h := by
  intro p l e s m args below meth c base D T C0 α H L locs Fin hC hW hL hs hl hS hF hT
  have hx0 : ¬ x < 0 := by rw [Int32.lt_iff_toInt_lt, Int32.toInt_zero]; omega
  have hxn : x.toNatClampNeg = len := by show x.toInt.toNat = len; omega
  have hov : va_AO C s := hC.2.2.2.2.2.2.2.2.2.1 _ hover
  refine va_newq C0.1 C0.2.1 C0.2.2.2.1 (C0.2.2.2.2.1 _ hlink) hov C0.2.2.2.2.2.1 hW.1 hW.2.1 hS (fun q hq => Nat.le_trans C0.2.2.2.2.2.2.1 hq) hx0 hxn hbytes hcells hslots d (fun q cA H1 hK1 hP1 hD1 hS1 => ?_)
  have e1 : va_RA s cA (.object C) := by
    have h9 := hK1.2 (ab_tys T).length (cA, .object C) (by simp)
    exact h9.2
  have e2 : va_RA s (T t) (.object C) := by
    refine (C0.2.2.2.2.2.1.2 t (T t, .object C) ?_).2
    unfold ab_tys
    rw [List.getElem?_map, List.getElem?_zipIdx, ht]
    simp
  have e3 : cA = T t := by
    obtain ⟨_, _, _, _, _, h1⟩ := e1
    obtain ⟨_, _, _, _, _, h2⟩ := e2
    exact Option.some.inj (h1.symm.trans h2)
  have hce : ab_ce α T (.inl (t, len, .inr (.inr (.inr (.inr (fun _ => none)))))) = .inl (cA, len, .inr (.inr (.inr (.inr (fun _ => none))))) := by
    rw [e3]; rfl
  rw [← hce] at hP1 hD1
  exact wa_made hn1 (e0 := .inl (t, len, .inr (.inr (.inr (.inr (fun _ => none)))))) (fun j k hjk => by cases hjk) K C0 hC hW hL (ab_wst hs) hl hF hT q H1 locs hP1 hD1 hS1
end NX
