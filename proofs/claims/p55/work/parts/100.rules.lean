/-! THE ABSTRACT JUDGEMENT: call rows, return rows, throw. -/
theorem vx_Run.of {p : Program} {l : Launch} {e : Env} {R : Room} {s : State} {m : MethodId} {args : Array Value} {below : List Frame} {meth : Method} {c : Code} {H : Heap} {locs : List Loc} {cells slots mc ms : Nat} {g : JFrame} {rest : List Value} {Qa : State → Outcome → State → Prop} {XC : String → State → State → Prop} {free : Addr → Prop}
    (h : va_Run p l e R s m args below meth c H locs cells slots mc ms g rest Qa free) : vx_Run p l e R s m args below meth c H locs cells slots mc ms g rest Qa XC free := fun T hT X => Or.inl (h T hT X)
theorem ab_good {w : Cond} (h : w ∈ ab_big) : w ∈ ab_big ∧ ((w.onTables && w.keeps) = true ∨ ∃ ty, w = .arrayClass ty) := ⟨h, good_of_word (List.mem_filter.mp h).2⟩
theorem ab_gd {ws : List Cond} (h : ∀ w ∈ ws, w ∈ ab_big) : GoodIn ab_big (ws ++ ab_big) := fun w hw => ab_good ((List.mem_append.mp hw).elim (h w) (fun q => q))
theorem ab_pw {Xx : ab_X} {own : String} {cc : ByteArray} {nL : Nat} {hh : List (Nat × Nat × Nat × Nat)} {R : Room} {p : Program} {l : Launch} {s : State} {m : MethodId} {args : Array Value} {meth : Method} {c : Code} {base : Nat} {D : va_G} {T : Nat → ClassId} (C0 : ab_Ctx Xx own cc nL hh R p l s m args meth c base D T)
    {α : Nat → Nat} {n : Nat} {h : ab_H} {H : Heap} {locs : List Loc} (hC : ab_Cn base D T α s s.heap) (hW : ab_Wd base D T α n h H) (hS : va_S (ab_A base) s.heap H locs) {U : State} (hU : U.heap = H) (hw : s.WarmedH U.vm) : ab_Pw base D T α n h U := by
  refine ⟨by rw [hU]; exact hW, hC.mv hw (fun q h1 h2 => by rw [hU]; exact hS.2.1 q h1 h2), va_K.moved hw.alike C0.2.2.2.2.2.1, by rw [hU]; exact Nat.le_trans C0.2.2.2.2.2.2.1 hS.1⟩
theorem ab_catsum (α : Nat → Nat) (st : List Value) : ((st.map (ab_cv α)).map fun v => v.category).sum = (st.map fun v => v.category).sum := by
  rw [List.map_map]
  congr 1
  exact List.map_congr_left (fun v _ => ab_cat α v)
/-- what links a call site to its method: virtual, static, a constructor -/
def ab_nmok (y : MethodName) (k : Nat) : Prop := plainFor y = true ∧ y.cls ≠ "java/lang/invoke/MethodHandle" ∧ y.cls ≠ "java/lang/invoke/VarHandle" ∧ (parseMethodDescriptor y.desc).map (fun d => d.parameters.length) = some k
def ab_lkV (own : String) (index : Nat) (y : MethodName) (cc2 : ByteArray) (maxL2 : Nat) (ret2 : Option FieldType) (k : Nat) : Prop := (∀ w ∈ [Cond.methodLink own index y, .instanceMethod y, .selects y.cls y y, .initialized y.cls, .code y cc2 maxL2 ret2], w ∈ ab_big) ∧ ab_nmok y k
def ab_lkS (own : String) (index : Nat) (y : MethodName) (cc2 : ByteArray) (maxL2 : Nat) (ret2 : Option FieldType) (k : Nat) : Prop := (∀ w ∈ [Cond.methodLink own index y, .static y, .initialized y.cls, .code y cc2 maxL2 ret2], w ∈ ab_big) ∧ ab_nmok y k
def ab_lkW (own : String) (index : Nat) (y : MethodName) (cc2 : ByteArray) (maxL2 : Nat) (ret2 : Option FieldType) (hh2 : List (Nat × Nat × Nat × Nat)) (k : Nat) : Prop := (∀ w ∈ [Cond.methodLink own index y, .static y, .initialized y.cls, .codeWith y cc2 maxL2 ret2 hh2], w ∈ ab_big) ∧ ab_nmok y k
def ab_lkI (own : String) (index : Nat) (y : MethodName) (cc2 : ByteArray) (maxL2 : Nat) (k : Nat) : Prop := (∀ w ∈ [Cond.methodLink own index y, .instanceMethod y, .initialized y.cls, .code y cc2 maxL2 none], w ∈ ab_big) ∧ ab_nmok y k ∧ y.name = "<init>"
def ab_lkIN (own : String) (index : Nat) (y : MethodName) (host : String) (cc2 : ByteArray) (maxL2 : Nat) (k : Nat) : Prop := (∀ w ∈ [Cond.instanceMethod y, .initialized y.cls, .code y cc2 maxL2 none], w ∈ ab_big) ∧ ab_nmok y k ∧ y.name = "<init>" ∧ (own, index, y, host) ∈ ab_nM
def ab_lkSN (own : String) (index : Nat) (y : MethodName) (host : String) (cc2 : ByteArray) (maxL2 : Nat) (ret2 : Option FieldType) (k : Nat) : Prop := (∀ w ∈ [Cond.static y, .initialized y.cls, .code y cc2 maxL2 ret2], w ∈ ab_big) ∧ ab_nmok y k ∧ (own, index, y, host) ∈ ab_nM
def ab_fit (R : Room) (d maxL2 mc ms k z : Nat) : Prop := d + 4 ≤ R.frames ∧ 8 + (maxL2 + 11) + (40 * d + 70) ≤ R.locals ∧ k + mc ≤ R.cells ∧ z + ms ≤ R.slots
section CR
variable {Xx : ab_X} {own : String} {cc : ByteArray} {nL : Nat} {hh : List (Nat × Nat × Nat × Nat)} {R : Room} {Q : ab_Q} {k z pc : Nat} {ls : List (Option Value)} {st stk : List Value} {n : Nat} {h : ab_H}
variable {index : Nat} {y : MethodName} {cc2 : ByteArray} {maxL2 : Nat} {ret2 : Option FieldType} {hh2 : List (Nat × Nat × Nat × Nat)} {d mc ms : Nat} {As : List Value} {Q0 : ab_R → Nat → ab_H → Prop}
theorem wa_callV {b ci N : Nat} {T0 : u_T} {fs : List Value} (dd : decode cc pc = .ok (.invokevirtual index, 3)) (lk : ab_lkV own index y cc2 maxL2 ret2 As.length) (hA : AM y cc2 maxL2 ret2 [] d mc ms (.ref b :: As) n h Q0) (hst : stk = As.reverse ++ .ref b :: st)
    (hbe : h b = .inr (ci, fs)) (hc : ab_cl[ci]? = some (y.cls, T0, N)) (hb : ab_dom n h b) (hlen : (ab_el (.ref b :: As)).length ≤ maxL2) (hR : ab_fit R d maxL2 mc ms k z) (hrest : (st.map fun v => v.category).sum ≤ 8)
    (kR : ∀ ro n' h', Q0 (.inl ro) n' h' → n ≤ n' → WX Xx own cc nL hh R Q (k + mc) (z + ms) (pc + 3) ls (ro.toList ++ st) n' h') (kT : ∀ E n' h', Q0 (.inr E) n' h' → n ≤ n' → WTX Xx own cc nL hh R Q (k + mc) (z + ms) pc ls E n' h') : WX Xx own cc nL hh R Q k z pc ls stk n h := by
  subst hst
  intro p l e s m args below meth c base D T C0 α H L locs Fin hC hW hL hs hl hS hF hT
  obtain ⟨hwk, hy1, hy2, hy3, hy4⟩ := lk
  have has : ∀ v ∈ Value.ref b :: As, ab_wv n v := fun v hv => hs v (by
    rcases List.mem_cons.mp hv with rfl | hv
    · exact List.mem_append_right _ List.mem_cons_self
    · exact List.mem_append_left _ (List.mem_reverse.mpr hv))
  have hs2 : ∀ v ∈ st, ab_wv n v := fun v hv => hs v (List.mem_append_right _ (List.mem_cons_of_mem _ hv))
  have hM := hA.vx has hlen hy1 C0.2.2.2.2.2.2.2.2.2.1 base D T α
  have hrc := ab_rcv hC C0.2.2.2.2.2.1 hW hS hb hbe hc
  have hG : GoodIn ab_big (wsV own index y.cls y (Cond.code y cc2 maxL2 ret2 :: ab_big)) := by
    have h9 := ab_gd hwk
    exact h9
  have cw := cwV (R := R) (args := args) (s := s) As.length C0.2.2.2.2.1 hG rfl (rm := ab_rm d mc ms) rfl rfl ⟨rfl, hy2, hy3, hy4⟩ ⟨by show d + 3 + 1 ≤ _; exact hR.1, by show 8 + (maxL2 + 11) + (40 * d + 70) ≤ _; exact hR.2.1⟩
  have hr := vx_runV (locs := locs) (meth := meth) (below := below) (e := e) (rest := st.map (ab_cv α)) (As := As.map (ab_cv α)) (g := F0 m pc L ((As.reverse ++ .ref b :: st).map (ab_cv α))) ⟨C0.1, C0.2.1, C0.2.2.1, C0.2.2.2.1, C0.2.2.2.2.1⟩ hM cw ⟨ab_Pc_blind, hrc, fun U hU hw => ⟨rfl, ab_pw C0 hC hW hS hU hw⟩⟩ rfl (by rw [List.length_map]) hL.1.1
    (by show (As.reverse ++ .ref b :: st).map (ab_cv α) = _; rw [List.map_append, List.map_cons, List.map_reverse]; rfl) (lv_room (by rw [ab_catsum]; exact hrest)) dd ⟨hR.2.2.1, hR.2.2.2⟩
  exact wa_back kR kT C0 hC hL hs2 hl hS hF hT hr
theorem wa_callS (dd : decode cc pc = .ok (.invokestatic index, 3)) (lk : ab_lkS own index y cc2 maxL2 ret2 As.length) (hA : AM y cc2 maxL2 ret2 [] d mc ms As n h Q0) (hst : stk = As.reverse ++ st)
    (hlen : (ab_el As).length ≤ maxL2) (hR : ab_fit R d maxL2 mc ms k z) (hrest : (st.map fun v => v.category).sum ≤ 8)
    (kR : ∀ ro n' h', Q0 (.inl ro) n' h' → n ≤ n' → WX Xx own cc nL hh R Q (k + mc) (z + ms) (pc + 3) ls (ro.toList ++ st) n' h') (kT : ∀ E n' h', Q0 (.inr E) n' h' → n ≤ n' → WTX Xx own cc nL hh R Q (k + mc) (z + ms) pc ls E n' h') : WX Xx own cc nL hh R Q k z pc ls stk n h := by
  subst hst
  intro p l e s m args below meth c base D T C0 α H L locs Fin hC hW hL hs hl hS hF hT
  obtain ⟨hwk, hy1, hy2, hy3, hy4⟩ := lk
  have has : ∀ v ∈ As, ab_wv n v := fun v hv => hs v (List.mem_append_left _ (List.mem_reverse.mpr hv))
  have hs2 : ∀ v ∈ st, ab_wv n v := fun v hv => hs v (List.mem_append_right _ hv)
  have hM := hA.vx has hlen hy1 C0.2.2.2.2.2.2.2.2.2.1 base D T α
  have hG : GoodIn ab_big (va_wsS own index y (Cond.code y cc2 maxL2 ret2 :: ab_big)) := by
    have h9 := ab_gd hwk
    exact h9
  have cw := va_cwS (R := R) (args := args) (s := s) As.length C0.2.2.2.2.1 hG rfl (rm := ab_rm d mc ms) rfl rfl ⟨hy2, hy3, hy4⟩ ⟨by show d + 3 + 1 ≤ _; exact hR.1, by show 8 + (maxL2 + 11) + (40 * d + 70) ≤ _; exact hR.2.1⟩
  have hr := vx_runS (locs := locs) (meth := meth) (below := below) (e := e) (rest := st.map (ab_cv α)) (As := As.map (ab_cv α)) (g := F0 m pc L ((As.reverse ++ st).map (ab_cv α))) ⟨C0.1, C0.2.1, C0.2.2.1, C0.2.2.2.1, C0.2.2.2.2.1⟩ hM cw ⟨ab_Pc_blind, fun U hU hw => ⟨rfl, ab_pw C0 hC hW hS hU hw⟩⟩ rfl (by rw [List.length_map]) hL.1.1
    (by show (As.reverse ++ st).map (ab_cv α) = _; rw [List.map_append, List.map_reverse]) (lv_room (by rw [ab_catsum]; exact hrest)) dd ⟨hR.2.2.1, hR.2.2.2⟩
  exact wa_back kR kT C0 hC hL hs2 hl hS hF hT hr
theorem wa_callW (dd : decode cc pc = .ok (.invokestatic index, 3)) (lk : ab_lkW own index y cc2 maxL2 ret2 hh2 As.length) (hA : AM y cc2 maxL2 ret2 hh2 d mc ms As n h Q0) (hst : stk = As.reverse ++ st)
    (hlen : (ab_el As).length ≤ maxL2) (hR : ab_fit R d maxL2 mc ms k z) (hrest : (st.map fun v => v.category).sum ≤ 8)
    (kR : ∀ ro n' h', Q0 (.inl ro) n' h' → n ≤ n' → WX Xx own cc nL hh R Q (k + mc) (z + ms) (pc + 3) ls (ro.toList ++ st) n' h') (kT : ∀ E n' h', Q0 (.inr E) n' h' → n ≤ n' → WTX Xx own cc nL hh R Q (k + mc) (z + ms) pc ls E n' h') : WX Xx own cc nL hh R Q k z pc ls stk n h := by
  subst hst
  intro p l e s m args below meth c base D T C0 α H L locs Fin hC hW hL hs hl hS hF hT
  obtain ⟨hwk, hy1, hy2, hy3, hy4⟩ := lk
  have has : ∀ v ∈ As, ab_wv n v := fun v hv => hs v (List.mem_append_left _ (List.mem_reverse.mpr hv))
  have hs2 : ∀ v ∈ st, ab_wv n v := fun v hv => hs v (List.mem_append_right _ hv)
  have hM := hA.vxW has hlen hy1 C0.2.2.2.2.2.2.2.2.2.1 base D T α
  have hG : GoodIn ab_big (va_wsS own index y (Cond.codeWith y cc2 maxL2 ret2 hh2 :: ab_big)) := by
    have h9 := ab_gd hwk
    exact h9
  have cw := vx_cwSW (R := R) (args := args) (s := s) As.length C0.2.2.2.2.1 hG rfl (rm := ab_rm d mc ms) rfl rfl ⟨hy2, hy3, hy4⟩ ⟨by show d + 3 + 1 ≤ _; exact hR.1, by show 8 + (maxL2 + 11) + (40 * d + 70) ≤ _; exact hR.2.1⟩
  have hr := vx_runSX (locs := locs) (meth := meth) (below := below) (e := e) (rest := st.map (ab_cv α)) (As := As.map (ab_cv α)) (g := F0 m pc L ((As.reverse ++ st).map (ab_cv α))) ⟨C0.1, C0.2.1, C0.2.2.1, C0.2.2.2.1, C0.2.2.2.2.1⟩ hM cw ⟨ab_Pc_blind, fun U hU hw => ⟨rfl, ab_pw C0 hC hW hS hU hw⟩⟩ rfl (by rw [List.length_map]) hL.1.1
    (by show (As.reverse ++ st).map (ab_cv α) = _; rw [List.map_append, List.map_reverse]) (lv_room (by rw [ab_catsum]; exact hrest)) dd ⟨hR.2.2.1, hR.2.2.2⟩
  exact wa_back kR kT C0 hC hL hs2 hl hS hF hT hr
theorem ab_noX {base : Nat} {D : va_G} {T : Nat → ClassId} {α : Nat → Nat} (hno : ∀ E n' h', ¬ Q0 (.inr E) n' h') : ∀ E s t, ¬ ab_XC base D T α n Q0 E s t := fun E s t h => by
  obtain ⟨⟨n', h', α', hq, -⟩, -⟩ := h
  exact hno _ _ _ hq
theorem wa_callI {b : Nat} (dd : decode cc pc = .ok (.invokespecial index, 3)) (lk : ab_lkI own index y cc2 maxL2 As.length) (hA : AM y cc2 maxL2 none [] d mc ms (.ref b :: As) n h Q0) (hno : ∀ E n' h', ¬ Q0 (.inr E) n' h') (hst : stk = As.reverse ++ .ref b :: st)
    (hlen : (ab_el (.ref b :: As)).length ≤ maxL2) (hR : ab_fit R d maxL2 mc ms k z) (hrest : (st.map fun v => v.category).sum ≤ 8)
    (kR : ∀ ro n' h', Q0 (.inl ro) n' h' → n ≤ n' → WX Xx own cc nL hh R Q (k + mc) (z + ms) (pc + 3) ls (ro.toList ++ st) n' h') : WX Xx own cc nL hh R Q k z pc ls stk n h := by
  subst hst
  intro p l e s m args below meth c base D T C0 α H L locs Fin hC hW hL hs hl hS hF hT
  obtain ⟨hwk, ⟨hy1, hy2, hy3, hy4⟩, hnm⟩ := lk
  have has : ∀ v ∈ Value.ref b :: As, ab_wv n v := fun v hv => hs v (by
    rcases List.mem_cons.mp hv with rfl | hv
    · exact List.mem_append_right _ List.mem_cons_self
    · exact List.mem_append_left _ (List.mem_reverse.mpr hv))
  have hs2 : ∀ v ∈ st, ab_wv n v := fun v hv => hs v (List.mem_append_right _ (List.mem_cons_of_mem _ hv))
  have hM := vx_toMet (hA.vx has hlen hy1 C0.2.2.2.2.2.2.2.2.2.1 base D T α) (ab_noX hno)
  have hG : GoodIn ab_big (Cond.code y cc2 maxL2 none :: ab_big) := ab_gd (ws := [Cond.code y cc2 maxL2 none]) (fun w hw => hwk w (List.mem_cons_of_mem _ (List.mem_cons_of_mem _ (List.mem_cons_of_mem _ hw))))
  have hwb : ∀ w ∈ [Cond.methodLink own index y, .instanceMethod y, .initialized y.cls, .code y cc2 maxL2 none], w.before args s = true := fun w hw => C0.2.2.2.2.1 _ (hwk w hw)
  have cw := cwI (R := R) (args := args) (s := s) As.length C0.2.2.2.2.1 hG rfl (rm := ab_rm d mc ms) rfl rfl (hwb _ (List.mem_of_getElem? (i := 2) rfl)) (hwb _ (List.mem_of_getElem? (i := 0) rfl)) (hwb _ (List.mem_of_getElem? (i := 1) rfl)) hnm ⟨hy2, hy3, hy4⟩ ⟨by show d + 3 + 1 ≤ _; exact hR.1, by show 8 + (maxL2 + 11) + (40 * d + 70) ≤ _; exact hR.2.1⟩
  have hr := va_runI (locs := locs) (meth := meth) (below := below) (e := e) (rest := st.map (ab_cv α)) (As := As.map (ab_cv α)) (b := α b) (g := F0 m pc L ((As.reverse ++ .ref b :: st).map (ab_cv α))) ⟨C0.1, C0.2.1, C0.2.2.1, C0.2.2.2.1, C0.2.2.2.2.1⟩ hM cw ⟨ab_Pc_blind, fun U hU hw => ⟨rfl, ab_pw C0 hC hW hS hU hw⟩⟩ rfl (by rw [List.length_map]) hL.1.1
    (by show (As.reverse ++ .ref b :: st).map (ab_cv α) = _; rw [List.map_append, List.map_cons, List.map_reverse]; rfl) (lv_room (by rw [ab_catsum]; exact hrest)) dd ⟨hR.2.2.1, hR.2.2.2⟩
  exact wa_back kR (fun E n' h' hq _ => absurd hq (hno _ _ _)) C0 hC hL hs2 hl hS hF hT (vx_Run.of hr)
theorem wa_callIN {b : Nat} {host : String} (dd : decode cc pc = .ok (.invokespecial index, 3)) (lk : ab_lkIN own index y host cc2 maxL2 As.length) (hA : AM y cc2 maxL2 none [] d mc ms (.ref b :: As) n h Q0) (hno : ∀ E n' h', ¬ Q0 (.inr E) n' h') (hst : stk = As.reverse ++ .ref b :: st)
    (hlen : (ab_el (.ref b :: As)).length ≤ maxL2) (hR : ab_fit R d maxL2 mc ms k z) (hrest : (st.map fun v => v.category).sum ≤ 8)
    (kR : ∀ ro n' h', Q0 (.inl ro) n' h' → n ≤ n' → WX Xx own cc nL hh R Q (k + mc) (z + ms) (pc + 3) ls (ro.toList ++ st) n' h') : WX Xx own cc nL hh R Q k z pc ls stk n h := by
  subst hst
  intro p l e s m args below meth c base D T C0 α H L locs Fin hC hW hL hs hl hS hF hT
  obtain ⟨hwk, ⟨hy1, hy2, hy3, hy4⟩, hnm, hnest⟩ := lk
  have has : ∀ v ∈ Value.ref b :: As, ab_wv n v := fun v hv => hs v (by
    rcases List.mem_cons.mp hv with rfl | hv
    · exact List.mem_append_right _ List.mem_cons_self
    · exact List.mem_append_left _ (List.mem_reverse.mpr hv))
  have hs2 : ∀ v ∈ st, ab_wv n v := fun v hv => hs v (List.mem_append_right _ (List.mem_cons_of_mem _ hv))
  have hM := vx_toMet (hA.vx has hlen hy1 C0.2.2.2.2.2.2.2.2.2.1 base D T α) (ab_noX hno)
  have hG : GoodIn ab_big (Cond.code y cc2 maxL2 none :: ab_big) := ab_gd (ws := [Cond.code y cc2 maxL2 none]) (fun w hw => hwk w (List.mem_cons_of_mem _ (List.mem_cons_of_mem _ hw)))
  have hwb : ∀ w ∈ [Cond.instanceMethod y, .initialized y.cls, .code y cc2 maxL2 none], w.before args s = true := fun w hw => C0.2.2.2.2.1 _ (hwk w hw)
  have cw := va_cnB (R := R) (args := args) (s := s) As.length C0.2.2.2.2.1 hG rfl (rm := ab_rm d mc ms) rfl rfl (hC.2.2.2.2.2.2.1 _ hnest) (hwb _ (List.mem_of_getElem? (i := 1) rfl)) ⟨hy2, hy3, hy4⟩ ⟨by show d + 3 + 1 ≤ _; exact hR.1, by show 8 + (maxL2 + 11) + (40 * d + 70) ≤ _; exact hR.2.1⟩
  have hr := va_runIN (locs := locs) (meth := meth) (below := below) (e := e) (rest := st.map (ab_cv α)) (As := As.map (ab_cv α)) (b := α b) (g := F0 m pc L ((As.reverse ++ .ref b :: st).map (ab_cv α))) ⟨C0.1, C0.2.1, C0.2.2.1, C0.2.2.2.1, C0.2.2.2.2.1⟩ hM ⟨cw, hnm, hwb _ (List.mem_of_getElem? (i := 0) rfl)⟩ ⟨ab_Pc_blind, fun U hU hw => ⟨rfl, ab_pw C0 hC hW hS hU hw⟩⟩ rfl (by rw [List.length_map]) hL.1.1
    (by show (As.reverse ++ .ref b :: st).map (ab_cv α) = _; rw [List.map_append, List.map_cons, List.map_reverse]; rfl) (lv_room (by rw [ab_catsum]; exact hrest)) dd ⟨hR.2.2.1, hR.2.2.2⟩
  exact wa_back kR (fun E n' h' hq _ => absurd hq (hno _ _ _)) C0 hC hL hs2 hl hS hF hT (vx_Run.of hr)
theorem wa_callSN {host : String} (dd : decode cc pc = .ok (.invokestatic index, 3)) (lk : ab_lkSN own index y host cc2 maxL2 ret2 As.length) (hA : AM y cc2 maxL2 ret2 [] d mc ms As n h Q0) (hno : ∀ E n' h', ¬ Q0 (.inr E) n' h') (hst : stk = As.reverse ++ st)
    (hlen : (ab_el As).length ≤ maxL2) (hR : ab_fit R d maxL2 mc ms k z) (hrest : (st.map fun v => v.category).sum ≤ 8)
    (kR : ∀ ro n' h', Q0 (.inl ro) n' h' → n ≤ n' → WX Xx own cc nL hh R Q (k + mc) (z + ms) (pc + 3) ls (ro.toList ++ st) n' h') : WX Xx own cc nL hh R Q k z pc ls stk n h := by
  subst hst
  intro p l e s m args below meth c base D T C0 α H L locs Fin hC hW hL hs hl hS hF hT
  obtain ⟨hwk, ⟨hy1, hy2, hy3, hy4⟩, hnest⟩ := lk
  have has : ∀ v ∈ As, ab_wv n v := fun v hv => hs v (List.mem_append_left _ (List.mem_reverse.mpr hv))
  have hs2 : ∀ v ∈ st, ab_wv n v := fun v hv => hs v (List.mem_append_right _ hv)
  have hM := vx_toMet (hA.vx has hlen hy1 C0.2.2.2.2.2.2.2.2.2.1 base D T α) (ab_noX hno)
  have hG : GoodIn ab_big (Cond.code y cc2 maxL2 ret2 :: ab_big) := ab_gd (ws := [Cond.code y cc2 maxL2 ret2]) (fun w hw => hwk w (List.mem_cons_of_mem _ (List.mem_cons_of_mem _ hw)))
  have hwb : ∀ w ∈ [Cond.static y, .initialized y.cls, .code y cc2 maxL2 ret2], w.before args s = true := fun w hw => C0.2.2.2.2.1 _ (hwk w hw)
  have cw := va_cnB (R := R) (args := args) (s := s) As.length C0.2.2.2.2.1 hG rfl (rm := ab_rm d mc ms) rfl rfl (hC.2.2.2.2.2.2.1 _ hnest) (hwb _ (List.mem_of_getElem? (i := 1) rfl)) ⟨hy2, hy3, hy4⟩ ⟨by show d + 3 + 1 ≤ _; exact hR.1, by show 8 + (maxL2 + 11) + (40 * d + 70) ≤ _; exact hR.2.1⟩
  have hr := va_runSN (locs := locs) (meth := meth) (below := below) (e := e) (rest := st.map (ab_cv α)) (As := As.map (ab_cv α)) (g := F0 m pc L ((As.reverse ++ st).map (ab_cv α))) ⟨C0.1, C0.2.1, C0.2.2.1, C0.2.2.2.1, C0.2.2.2.2.1⟩ hM ⟨cw, hwb _ (List.mem_of_getElem? (i := 0) rfl), trivial⟩ ⟨ab_Pc_blind, fun U hU hw => ⟨rfl, ab_pw C0 hC hW hS hU hw⟩⟩ rfl (by rw [List.length_map]) hL.1.1
    (by show (As.reverse ++ st).map (ab_cv α) = _; rw [List.map_append, List.map_reverse]) (lv_room (by rw [ab_catsum]; exact hrest)) dd ⟨hR.2.2.1, hR.2.2.2⟩
  exact wa_back kR (fun E n' h' hq _ => absurd hq (hno _ _ _)) C0 hC hL hs2 hl hS hF hT (vx_Run.of hr)
theorem wa_ret {ro : Option Value} {ins : Instr} (dd : decode cc pc = .ok (ins, 1)) (hri : ab_ri ro ins) (hQ : Q (.inl ro) k z n h) : WX Xx own cc nL hh R Q k z pc ls ro.toList n h := by
  intro p l e s m args below meth c base D T C0 α H L locs Fin hC hW hL hs hl hS hF hT
  exact hF ro n h α H L locs k z pc ins hQ (Nat.le_refl _) ab_Ag.rf hW hS hL.1.1 (fun v hv => hs v (by rw [hv]; exact List.mem_cons_self)) hri dd
theorem wa_ireturn {x : Int32} (dd : decode cc pc = .ok (.ireturn, 1)) (hQ : Q (.inl (some (.int x))) k z n h) : WX Xx own cc nL hh R Q k z pc ls [.int x] n h := wa_ret (ro := some (.int x)) dd rfl hQ
theorem wa_lreturn {x : Int64} (dd : decode cc pc = .ok (.lreturn, 1)) (hQ : Q (.inl (some (.long x))) k z n h) : WX Xx own cc nL hh R Q k z pc ls [.long x] n h := wa_ret (ro := some (.long x)) dd rfl hQ
theorem wa_freturn {x : UInt32} (dd : decode cc pc = .ok (.freturn, 1)) (hQ : Q (.inl (some (.float x))) k z n h) : WX Xx own cc nL hh R Q k z pc ls [.float x] n h := wa_ret (ro := some (.float x)) dd rfl hQ
theorem wa_dreturn {x : UInt64} (dd : decode cc pc = .ok (.dreturn, 1)) (hQ : Q (.inl (some (.double x))) k z n h) : WX Xx own cc nL hh R Q k z pc ls [.double x] n h := wa_ret (ro := some (.double x)) dd rfl hQ
theorem wa_areturn {x : Nat} (dd : decode cc pc = .ok (.areturn, 1)) (hQ : Q (.inl (some (.ref x))) k z n h) : WX Xx own cc nL hh R Q k z pc ls [.ref x] n h := wa_ret (ro := some (.ref x)) dd rfl hQ
theorem wa_areturnN (dd : decode cc pc = .ok (.areturn, 1)) (hQ : Q (.inl (some .null)) k z n h) : WX Xx own cc nL hh R Q k z pc ls [.null] n h := wa_ret (ro := some .null) dd rfl hQ
theorem wa_return (dd : decode cc pc = .ok (.return_, 1)) (hQ : Q (.inl none) k z n h) : WX Xx own cc nL hh R Q k z pc ls [] n h := wa_ret (ro := none) dd rfl hQ
end CR
