/-! THE ABSTRACT JUDGEMENT: calls of inherited methods, and of a superclass's method. -/
def ab_lkU (own : String) (index : Nat) (C owner : String) (x y : MethodName) (cc2 : ByteArray) (maxL2 : Nat) (ret2 : Option FieldType) (k : Nat) : Prop := (∀ w ∈ [Cond.methodLink own index x, .sameMethod x.cls owner x.name x.desc, .selects C x y, .instanceMethod y, .initialized y.cls, .code y cc2 maxL2 ret2], w ∈ ab_big) ∧ ab_nmok y k ∧ y = ⟨owner, x.name, x.desc⟩
def ab_lkSU (own : String) (index : Nat) (y : MethodName) (cc2 : ByteArray) (maxL2 : Nat) (ret2 : Option FieldType) (k : Nat) : Prop := (∀ w ∈ [Cond.methodLink own index y, .sameMethod y.cls y.cls y.name y.desc, .superclass own y.cls, .instanceMethod y, .initialized y.cls, .code y cc2 maxL2 ret2], w ∈ ab_big) ∧ ab_nmok y k ∧ y.name ≠ "<init>"
section IH
variable {Xx : ab_X} {own : String} {cc : ByteArray} {nL : Nat} {hh : List (Nat × Nat × Nat × Nat)} {R : Room} {Q : ab_Q} {k z pc : Nat} {ls : List (Option Value)} {st stk : List Value} {n : Nat} {h : ab_H}
variable {index : Nat} {y : MethodName} {cc2 : ByteArray} {maxL2 : Nat} {ret2 : Option FieldType} {d mc ms : Nat} {As : List Value} {Q0 : ab_R → Nat → ab_H → Prop}
theorem wa_callU0 {C owner : String} {x : MethodName} {b : Nat} (dd : decode cc pc = .ok (.invokevirtual index, 3)) (lk : ab_lkU own index C owner x y cc2 maxL2 ret2 As.length) (hA : AM y cc2 maxL2 ret2 [] d mc ms (.ref b :: As) n h Q0) (hno : ∀ E n' h', ¬ Q0 (.inr E) n' h') (hst : stk = As.reverse ++ .ref b :: st)
    (hrc : ∀ {p : Program} {l : Launch} {s : State} {m : MethodId} {args : Array Value} {meth : Method} {c : Code} {base : Nat} {D : va_G} {T : Nat → ClassId} {α : Nat → Nat} {H : Heap} {locs : List Loc}, ab_Ctx Xx own cc nL hh R p l s m args meth c base D T → ab_Cn base D T α s s.heap → ab_Wd base D T α n h H → va_S (ab_A base) s.heap H locs → ∃ cell : Cell, H[α b]? = some cell ∧ cell.vm.isStatics = false ∧ s.vm.findClass C = some cell.cls)
    (hlen : (ab_el (.ref b :: As)).length ≤ maxL2) (hR : ab_fit R d maxL2 mc ms k z) (hrest : (st.map fun v => v.category).sum ≤ 8)
    (kR : ∀ ro n' h', Q0 (.inl ro) n' h' → n ≤ n' → WX Xx own cc nL hh R Q (k + mc) (z + ms) (pc + 3) ls (ro.toList ++ st) n' h') : WX Xx own cc nL hh R Q k z pc ls stk n h := by
  subst hst
  intro p l e s m args below meth c base D T C0 α H L locs Fin hC hW hL hs hl hS hF hT
  obtain ⟨hwk, ⟨hy1, hy2, hy3, hy4⟩, hyx⟩ := lk
  have has : ∀ v ∈ Value.ref b :: As, ab_wv n v := fun v hv => hs v (by
    rcases List.mem_cons.mp hv with rfl | hv
    · exact List.mem_append_right _ List.mem_cons_self
    · exact List.mem_append_left _ (List.mem_reverse.mpr hv))
  have hs2 : ∀ v ∈ st, ab_wv n v := fun v hv => hs v (List.mem_append_right _ (List.mem_cons_of_mem _ hv))
  have hM := vx_toMet (hA.vx has hlen hy1 C0.2.2.2.2.2.2.2.2.2.1 base D T α) (ab_noX hno)
  have hG : GoodIn ab_big (va_wsU own index C owner x y (Cond.code y cc2 maxL2 ret2 :: ab_big)) := by
    have h9 := ab_gd hwk
    exact h9
  have hy2' : owner ≠ "java/lang/invoke/MethodHandle" := by rw [hyx] at hy2; exact hy2
  have hy3' : owner ≠ "java/lang/invoke/VarHandle" := by rw [hyx] at hy3; exact hy3
  have hy4' : (parseMethodDescriptor x.desc).map (fun d => d.parameters.length) = some As.length := by rw [hyx] at hy4; exact hy4
  have cw := va_cwU (R := R) (args := args) (s := s) As.length C0.2.2.2.2.1 hG rfl (rm := ab_rm d mc ms) rfl rfl hyx ⟨hy2', hy3', hy4'⟩ ⟨by show d + 3 + 1 ≤ _; exact hR.1, by show 8 + (maxL2 + 11) + (40 * d + 70) ≤ _; exact hR.2.1⟩
  have hr := va_runU (locs := locs) (meth := meth) (below := below) (e := e) (rest := st.map (ab_cv α)) (As := As.map (ab_cv α)) (g := F0 m pc L ((As.reverse ++ .ref b :: st).map (ab_cv α))) ⟨C0.1, C0.2.1, C0.2.2.1, C0.2.2.2.1, C0.2.2.2.2.1⟩ hM cw ⟨ab_Pc_blind, hrc C0 hC hW hS, fun U hU hw => ⟨rfl, ab_pw C0 hC hW hS hU hw⟩⟩ rfl (by rw [List.length_map]) hL.1.1
    (by show (As.reverse ++ .ref b :: st).map (ab_cv α) = _; rw [List.map_append, List.map_cons, List.map_reverse]; rfl) (lv_room (by rw [ab_catsum]; exact hrest)) dd ⟨hR.2.2.1, hR.2.2.2⟩
  exact wa_back kR (fun E n' h' hq _ => absurd hq (hno _ _ _)) C0 hC hL hs2 hl hS hF hT (vx_Run.of hr)
theorem wa_callU {C owner : String} {x : MethodName} {b ci N : Nat} {T0 : u_T} {fs : List Value} (dd : decode cc pc = .ok (.invokevirtual index, 3)) (lk : ab_lkU own index C owner x y cc2 maxL2 ret2 As.length) (hA : AM y cc2 maxL2 ret2 [] d mc ms (.ref b :: As) n h Q0) (hno : ∀ E n' h', ¬ Q0 (.inr E) n' h') (hst : stk = As.reverse ++ .ref b :: st)
    (hbe : h b = .inr (ci, fs)) (hc : ab_cl[ci]? = some (C, T0, N)) (hb : ab_dom n h b)
    (hlen : (ab_el (.ref b :: As)).length ≤ maxL2) (hR : ab_fit R d maxL2 mc ms k z) (hrest : (st.map fun v => v.category).sum ≤ 8)
    (kR : ∀ ro n' h', Q0 (.inl ro) n' h' → n ≤ n' → WX Xx own cc nL hh R Q (k + mc) (z + ms) (pc + 3) ls (ro.toList ++ st) n' h') : WX Xx own cc nL hh R Q k z pc ls stk n h := by
  refine wa_callU0 dd lk hA hno hst ?_ hlen hR hrest kR
  intro p l s m args meth c base D T α H locs C0 hC hW hS
  exact ab_rcv hC C0.2.2.2.2.2.1 hW hS hb hbe hc
theorem wa_callUK {owner : String} {x : MethodName} {i : Nat} (dd : decode cc pc = .ok (.invokevirtual index, 3)) (lk : ab_lkU own index "ValveRoom$Keyword" owner x y cc2 maxL2 ret2 As.length) (hi : i < 18) (hA : AM y cc2 maxL2 ret2 [] d mc ms (.ref (ab_CB + (112 + i)) :: As) n h Q0) (hno : ∀ E n' h', ¬ Q0 (.inr E) n' h') (hst : stk = As.reverse ++ .ref (ab_CB + (112 + i)) :: st)
    (hlen : (ab_el (.ref (ab_CB + (112 + i)) :: As)).length ≤ maxL2) (hR : ab_fit R d maxL2 mc ms k z) (hrest : (st.map fun v => v.category).sum ≤ 8)
    (kR : ∀ ro n' h', Q0 (.inl ro) n' h' → n ≤ n' → WX Xx own cc nL hh R Q (k + mc) (z + ms) (pc + 3) ls (ro.toList ++ st) n' h') : WX Xx own cc nL hh R Q k z pc ls stk n h := by
  refine wa_callU0 dd lk hA hno hst ?_ hlen hR hrest kR
  intro p l s m args meth c base D T α H locs C0 hC hW hS
  obtain ⟨cell, h1, h2, h3, -⟩ := ((hC.2.1 i hi).1).kept hS.2.1
  exact ⟨cell, h1, h2, h3⟩
theorem wa_callSU {b ci N : Nat} {C : String} {T0 : u_T} {fs : List Value} (dd : decode cc pc = .ok (.invokespecial index, 3)) (lk : ab_lkSU own index y cc2 maxL2 ret2 As.length) (hA : AM y cc2 maxL2 ret2 [] d mc ms (.ref b :: As) n h Q0) (hno : ∀ E n' h', ¬ Q0 (.inr E) n' h') (hst : stk = As.reverse ++ .ref b :: st)
    (hbe : h b = .inr (ci, fs)) (hc : ab_cl[ci]? = some (C, T0, N)) (hb : ab_dom n h b)
    (hlen : (ab_el (.ref b :: As)).length ≤ maxL2) (hR : ab_fit R d maxL2 mc ms k z) (hrest : (st.map fun v => v.category).sum ≤ 8)
    (kR : ∀ ro n' h', Q0 (.inl ro) n' h' → n ≤ n' → WX Xx own cc nL hh R Q (k + mc) (z + ms) (pc + 3) ls (ro.toList ++ st) n' h') : WX Xx own cc nL hh R Q k z pc ls stk n h := by
  subst hst
  intro p l e s m args below meth c base D T C0 α H L locs Fin hC hW hL hs hl hS hF hT
  obtain ⟨hwk, ⟨hy1, hy2, hy3, hy4⟩, hni⟩ := lk
  have has : ∀ v ∈ Value.ref b :: As, ab_wv n v := fun v hv => hs v (by
    rcases List.mem_cons.mp hv with rfl | hv
    · exact List.mem_append_right _ List.mem_cons_self
    · exact List.mem_append_left _ (List.mem_reverse.mpr hv))
  have hs2 : ∀ v ∈ st, ab_wv n v := fun v hv => hs v (List.mem_append_right _ (List.mem_cons_of_mem _ hv))
  have hM := vx_toMet (hA.vx has hlen hy1 C0.2.2.2.2.2.2.2.2.2.1 base D T α) (ab_noX hno)
  have hrc := ab_rcv hC C0.2.2.2.2.2.1 hW hS hb hbe hc
  have hat : ClassAt s C (D.1 ci) := (C0.2.2.2.2.2.1.1 ci _ hc).2
  have hG : GoodIn ab_big (va_wsSU own index y (Cond.code y cc2 maxL2 ret2 :: ab_big)) := by
    have h9 := ab_gd hwk
    exact h9
  have cw := va_cwSU (R := R) (args := args) (s := s) As.length C0.2.2.2.2.1 hG rfl (rm := ab_rm d mc ms) rfl rfl ⟨hni, hy4⟩ ⟨by show d + 3 + 1 ≤ _; exact hR.1, by show 8 + (maxL2 + 11) + (40 * d + 70) ≤ _; exact hR.2.1⟩
  have hr := va_runSU (locs := locs) (meth := meth) (below := below) (e := e) (rest := st.map (ab_cv α)) (As := As.map (ab_cv α)) (b := α b) (g := F0 m pc L ((As.reverse ++ .ref b :: st).map (ab_cv α))) hat ⟨C0.1, C0.2.1, C0.2.2.1, C0.2.2.2.1, C0.2.2.2.2.1⟩ hM cw ⟨ab_Pc_blind, hrc, fun U hU hw => ⟨rfl, ab_pw C0 hC hW hS hU hw⟩⟩ rfl (by rw [List.length_map]) hL.1.1
    (by show (As.reverse ++ .ref b :: st).map (ab_cv α) = _; rw [List.map_append, List.map_cons, List.map_reverse]; rfl) (lv_room (by rw [ab_catsum]; exact hrest)) dd ⟨hR.2.2.1, hR.2.2.2⟩
  exact wa_back kR (fun E n' h' hq _ => absurd hq (hno _ _ _)) C0 hC hL hs2 hl hS hF hT (vx_Run.of hr)
end IH
