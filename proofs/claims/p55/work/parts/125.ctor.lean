/-! CONSTRUCTORS: in their frames final fields may be put. The room of such a frame is marked (its locals are odd). -/
def ab_ric (d mc ms : Nat) : Room := { frames := d + 3, cells := mc, slots := ms, locals := 40 * d + 71 }
def ab_fitc (R : Room) (d maxL2 mc ms k z : Nat) : Prop := d + 4 ≤ R.frames ∧ 8 + (maxL2 + 11) + (40 * d + 71) ≤ R.locals ∧ k + mc ≤ R.cells ∧ z + ms ≤ R.slots
def AMi (y : MethodName) (cc : ByteArray) (maxL : Nat) (ret : Option FieldType) (hh : List (Nat × Nat × Nat × Nat)) (d mc ms : Nat) (as : List Value) (n : Nat) (h : ab_H) (Q : ab_R → Nat → ab_H → Prop) : Prop :=
  (∀ v ∈ as, ab_wv n v) → WA y.cls cc maxL hh (ab_ric d mc ms) (fun r k z n' h' => k ≤ mc ∧ z ≤ ms ∧ ab_rok ret r ∧ Q r n' h') 0 0 0 (ab_en maxL as) [] n h
theorem AMi.body {y : MethodName} {cc : ByteArray} {maxL : Nat} {ret : Option FieldType} {hh : List (Nat × Nat × Nat × Nat)} {d mc ms : Nat} {as : List Value} {n : Nat} {h : ab_H} {Q : ab_R → Nat → ab_H → Prop}
    (hA : AMi y cc maxL ret hh d mc ms as n h Q) (has : ∀ v ∈ as, ab_wv n v) (hlen : (ab_el as).length ≤ maxL) (hinit : y.name = "<init>") {l : Launch} (hl : l.stackTraces = false) {base : Nat} {D : va_G} {T : Nat → ClassId} {α : Nat → Nat} {ws ws' : List Cond} {c0 : Cond} (hw : ws = c0 :: ab_big)
    {p : Program} {e : Env} {s s₁ : State} {m : MethodId} {args : Array Value} {below : List Frame} {meth : Method} {c : Code} (B : BodyLoose p l y (headSpec ws (ab_ric d mc ms)) cc maxL ret e s m args below meth c s₁) (hml : c.maxLocals = maxL) (htab : c.exceptionTable.toList = tableOf hh) (hP : ab_Pc base D T α n h as args s) :
    W p l e (ab_ric d mc ms) s m args below meth c s.heap [] 0 0 (vx_MQ below (ab_Qc base D T α n Q) (ab_XC base D T α n Q) args s mc ms (ab_A base)) (entryFrame m args maxL) := by
  obtain ⟨rfl, hWd, hCn, hK, hb⟩ := hP
  have hts := atoms_spec (ws := ws) B.pre
  have hC0 : ab_Ctx ab_X0 y.cls cc maxL hh (ab_ric d mc ms) p l s m (as.map (ab_cv α)).toArray meth c base D T :=
    ⟨B.exec, B.bytes, hml, findClass_of_methodNamed B.named, fun w hw1 => hts w (by rw [hw]; exact List.mem_cons_of_mem _ hw1), hK, hb, htab, B.notSynchronized, hl, fun _ => (name_of_methodNamed B.named B.method).1.trans hinit, trivial⟩
  rw [lg_entry_eq]
  have hlk := B.notSynchronized
  refine hA has p l e s m _ below meth c base D T hC0 α s.heap _ [] _ hCn hWd (ab_en_LR hlen) (fun v hv => absurd hv List.not_mem_nil) (ab_en_w has) va_S.rf ?_ ?_
  · intro ro n' h' α' H' L' locs' k' z' pc' ins hQ hn hag hW hS hL' hwv hri hd
    obtain ⟨h1, h2, h3, h4⟩ := hQ
    have hq : ∀ t : State, t.heap = H' → s.WarmedH t.vm → ab_Qc base D T α n Q (as.map (ab_cv α)).toArray s (.returned (ro.map (ab_cv α'))) t := fun t ht _ => ⟨⟨ro, n', h', α', rfl, h4, hn, hag, by rw [ht]; exact hW, hwv⟩, hS.F ht⟩
    refine W.widen h1 h2 (vx_ret ?_)
    match ro, h3, hri, hq with
    | none, h3, hri, hq => cases hri; exact W.vret B.exec B.bytes (B.returns.trans h3) hq hS.2.2 hd hlk
    | some (.int v), ⟨ty, h3, h5⟩, hri, hq => cases hri; exact W.zret B.exec B.bytes (B.returns.trans h3) h5 hq hS.2.2 hd hlk
    | some (.long v), h3, hri, hq => cases hri; exact W.lret B.exec B.bytes (B.returns.trans h3) hq hS.2.2 hd hlk
    | some (.float v), h3, hri, hq => cases hri; exact W.fret B.exec B.bytes (B.returns.trans h3) hq hS.2.2 hd hlk
    | some (.double v), h3, hri, hq => cases hri; exact W.dret B.exec B.bytes (B.returns.trans h3) hq hS.2.2 hd hlk
    | some .null, ⟨ty, h3, h5⟩, hri, hq => cases hri; exact W.aret B.exec B.bytes (B.returns.trans h3) h5 (Or.inl rfl) hq hS.2.2 hd hlk
    | some (.ref a), ⟨ty, h3, h5⟩, hri, hq => cases hri; exact W.aret B.exec B.bytes (B.returns.trans h3) h5 (Or.inr ⟨_, rfl⟩) hq hS.2.2 hd hlk
  · constructor
    · intro E n' h' α' H' L' locs' k' z' pc' st' q ce hQ hn hag hW hS hce hv hcl hout
      obtain ⟨h1, h2, h3, h4⟩ := hQ
      exact vx_out hout hlk hce hv hcl (fun t ht _ => ⟨⟨n', h', α', h4, hn, hag, by rw [ht]; exact hW⟩, hS.F ht⟩) hS.2.2 h1 h2
    · intro E n' h' α' H' L' locs' k' z' g hQ hn hag hW hS hb
      obtain ⟨h1, h2, h3, h4⟩ := hQ
      exact hb _ _ _ _ (fun t _ hz hq => ⟨⟨n', h', α', h4, hn, hag, hW.kept hq⟩, ⟨Nat.le_trans hS.1 hz, fun q hq1 hq2 => (hq q (Nat.lt_of_lt_of_le hq1 hS.1)).trans (hS.2.1 q hq1 hq2)⟩⟩) hS.2.2 h1 h2
theorem AMi.vx {y : MethodName} {cc : ByteArray} {maxL : Nat} {ret : Option FieldType} {d mc ms : Nat} {as : List Value} {n : Nat} {h : ab_H} {Q : ab_R → Nat → ab_H → Prop}
    (hA : AMi y cc maxL ret [] d mc ms as n h Q) (has : ∀ v ∈ as, ab_wv n v) (hlen : (ab_el as).length ≤ maxL) (hinit : y.name = "<init>") (hy : plainFor y = true) {l : Launch} (hl : l.stackTraces = false) (base : Nat) (D : va_G) (T : Nat → ClassId) (α : Nat → Nat) :
    vx_Met l y (Cond.code y cc maxL ret :: ab_big) (ab_ric d mc ms) (ab_Pc base D T α n h as) (ab_Qc base D T α n Q) (ab_XC base D T α n Q) mc ms (ab_A base) := by
  refine vx_ofWF (cc := cc) (maxL := maxL) (ret := ret) hy rfl ?_
  intro p e s m args below meth c s₁ B hml hx hP
  refine hA.body has hlen hinit hl (ws' := []) rfl B hml ?_ hP
  cases hz : c.exceptionTable.toList with
  | nil => rfl
  | cons x xs => exact (hx x (by rw [hz]; exact List.mem_cons_self)).elim
section CR
variable {Xx : ab_X} {own : String} {cc : ByteArray} {nL : Nat} {hh : List (Nat × Nat × Nat × Nat)} {R : Room} {Q : ab_Q} {k z pc : Nat} {ls : List (Option Value)} {st stk : List Value} {n : Nat} {h : ab_H}
variable {index : Nat} {y : MethodName} {cc2 : ByteArray} {maxL2 : Nat} {ret2 : Option FieldType} {hh2 : List (Nat × Nat × Nat × Nat)} {d mc ms : Nat} {As : List Value} {Q0 : ab_R → Nat → ab_H → Prop}
theorem wa_callIc {b : Nat} (dd : decode cc pc = .ok (.invokespecial index, 3)) (lk : ab_lkI own index y cc2 maxL2 As.length) (hA : AMi y cc2 maxL2 none [] d mc ms (.ref b :: As) n h Q0) (hno : ∀ E n' h', ¬ Q0 (.inr E) n' h') (hinit : y.name = "<init>") (hst : stk = As.reverse ++ .ref b :: st)
    (hlen : (ab_el (.ref b :: As)).length ≤ maxL2) (hR : ab_fitc R d maxL2 mc ms k z) (hrest : (st.map fun v => v.category).sum ≤ 8)
    (kR : ∀ ro n' h', Q0 (.inl ro) n' h' → n ≤ n' → WX Xx own cc nL hh R Q (k + mc) (z + ms) (pc + 3) ls (ro.toList ++ st) n' h') : WX Xx own cc nL hh R Q k z pc ls stk n h := by
  subst hst
  intro p l e s m args below meth c base D T C0 α H L locs Fin hC hW hL hs hl hS hF hT
  obtain ⟨hwk, ⟨hy1, hy2, hy3, hy4⟩, hnm⟩ := lk
  have has : ∀ v ∈ Value.ref b :: As, ab_wv n v := fun v hv => hs v (by
    rcases List.mem_cons.mp hv with rfl | hv
    · exact List.mem_append_right _ List.mem_cons_self
    · exact List.mem_append_left _ (List.mem_reverse.mpr hv))
  have hs2 : ∀ v ∈ st, ab_wv n v := fun v hv => hs v (List.mem_append_right _ (List.mem_cons_of_mem _ hv))
  have hM := vx_toMet (hA.vx has hlen hinit hy1 C0.2.2.2.2.2.2.2.2.2.1 base D T α) (ab_noX hno)
  have hG : GoodIn ab_big (Cond.code y cc2 maxL2 none :: ab_big) := ab_gd (ws := [Cond.code y cc2 maxL2 none]) (fun w hw => hwk w (List.mem_cons_of_mem _ (List.mem_cons_of_mem _ (List.mem_cons_of_mem _ hw))))
  have hwb : ∀ w ∈ [Cond.methodLink own index y, .instanceMethod y, .initialized y.cls, .code y cc2 maxL2 none], w.before args s = true := fun w hw => C0.2.2.2.2.1 _ (hwk w hw)
  have cw := cwI (R := R) (args := args) (s := s) As.length C0.2.2.2.2.1 hG rfl (rm := ab_ric d mc ms) rfl rfl (hwb _ (List.mem_of_getElem? (i := 2) rfl)) (hwb _ (List.mem_of_getElem? (i := 0) rfl)) (hwb _ (List.mem_of_getElem? (i := 1) rfl)) hnm ⟨hy2, hy3, hy4⟩ ⟨by show d + 3 + 1 ≤ _; exact hR.1, by show 8 + (maxL2 + 11) + (40 * d + 71) ≤ _; exact hR.2.1⟩
  have hr := va_runI (locs := locs) (meth := meth) (below := below) (e := e) (rest := st.map (ab_cv α)) (As := As.map (ab_cv α)) (b := α b) (g := F0 m pc L ((As.reverse ++ .ref b :: st).map (ab_cv α))) ⟨C0.1, C0.2.1, C0.2.2.1, C0.2.2.2.1, C0.2.2.2.2.1⟩ hM cw ⟨ab_Pc_blind, fun U hU hw => ⟨rfl, ab_pw C0 hC hW hS hU hw⟩⟩ rfl (by rw [List.length_map]) hL.1.1
    (by show (As.reverse ++ .ref b :: st).map (ab_cv α) = _; rw [List.map_append, List.map_cons, List.map_reverse]; rfl) (lv_room (by rw [ab_catsum]; exact hrest)) dd ⟨hR.2.2.1, hR.2.2.2⟩
  exact wa_back kR (fun E n' h' hq _ => absurd hq (hno _ _ _)) C0 hC hL hs2 hl hS hF hT (vx_Run.of hr)
theorem wa_callINc {b : Nat} {host : String} (dd : decode cc pc = .ok (.invokespecial index, 3)) (lk : ab_lkIN own index y host cc2 maxL2 As.length) (hA : AMi y cc2 maxL2 none [] d mc ms (.ref b :: As) n h Q0) (hno : ∀ E n' h', ¬ Q0 (.inr E) n' h') (hinit : y.name = "<init>") (hst : stk = As.reverse ++ .ref b :: st)
    (hlen : (ab_el (.ref b :: As)).length ≤ maxL2) (hR : ab_fitc R d maxL2 mc ms k z) (hrest : (st.map fun v => v.category).sum ≤ 8)
    (kR : ∀ ro n' h', Q0 (.inl ro) n' h' → n ≤ n' → WX Xx own cc nL hh R Q (k + mc) (z + ms) (pc + 3) ls (ro.toList ++ st) n' h') : WX Xx own cc nL hh R Q k z pc ls stk n h := by
  subst hst
  intro p l e s m args below meth c base D T C0 α H L locs Fin hC hW hL hs hl hS hF hT
  obtain ⟨hwk, ⟨hy1, hy2, hy3, hy4⟩, hnm, hnest⟩ := lk
  have has : ∀ v ∈ Value.ref b :: As, ab_wv n v := fun v hv => hs v (by
    rcases List.mem_cons.mp hv with rfl | hv
    · exact List.mem_append_right _ List.mem_cons_self
    · exact List.mem_append_left _ (List.mem_reverse.mpr hv))
  have hs2 : ∀ v ∈ st, ab_wv n v := fun v hv => hs v (List.mem_append_right _ (List.mem_cons_of_mem _ hv))
  have hM := vx_toMet (hA.vx has hlen hinit hy1 C0.2.2.2.2.2.2.2.2.2.1 base D T α) (ab_noX hno)
  have hG : GoodIn ab_big (Cond.code y cc2 maxL2 none :: ab_big) := ab_gd (ws := [Cond.code y cc2 maxL2 none]) (fun w hw => hwk w (List.mem_cons_of_mem _ (List.mem_cons_of_mem _ hw)))
  have hwb : ∀ w ∈ [Cond.instanceMethod y, .initialized y.cls, .code y cc2 maxL2 none], w.before args s = true := fun w hw => C0.2.2.2.2.1 _ (hwk w hw)
  have cw := va_cnB (R := R) (args := args) (s := s) As.length C0.2.2.2.2.1 hG rfl (rm := ab_ric d mc ms) rfl rfl (hC.2.2.2.2.2.2.1 _ hnest) (hwb _ (List.mem_of_getElem? (i := 1) rfl)) ⟨hy2, hy3, hy4⟩ ⟨by show d + 3 + 1 ≤ _; exact hR.1, by show 8 + (maxL2 + 11) + (40 * d + 71) ≤ _; exact hR.2.1⟩
  have hr := va_runIN (locs := locs) (meth := meth) (below := below) (e := e) (rest := st.map (ab_cv α)) (As := As.map (ab_cv α)) (b := α b) (g := F0 m pc L ((As.reverse ++ .ref b :: st).map (ab_cv α))) ⟨C0.1, C0.2.1, C0.2.2.1, C0.2.2.2.1, C0.2.2.2.2.1⟩ hM ⟨cw, hnm, hwb _ (List.mem_of_getElem? (i := 0) rfl)⟩ ⟨ab_Pc_blind, fun U hU hw => ⟨rfl, ab_pw C0 hC hW hS hU hw⟩⟩ rfl (by rw [List.length_map]) hL.1.1
    (by show (As.reverse ++ .ref b :: st).map (ab_cv α) = _; rw [List.map_append, List.map_cons, List.map_reverse]; rfl) (lv_room (by rw [ab_catsum]; exact hrest)) dd ⟨hR.2.2.1, hR.2.2.2⟩
  exact wa_back kR (fun E n' h' hq _ => absurd hq (hno _ _ _)) C0 hC hL hs2 hl hS hF hT (vx_Run.of hr)
end CR
section HP
variable {Xx : ab_X} {own : String} {cc : ByteArray} {nL : Nat} {hh : List (Nat × Nat × Nat × Nat)} {R : Room} {Q : ab_Q} {k z pc : Nat} {ls : List (Option Value)} {st : List Value} {n : Nat} {h : ab_H}
theorem wa_putF {ci index a : Nat} {C : String} {T0 : u_T} {N : Nat} {fs : List Value} {v : Value} {ty : FieldType} (kf : Nat) (ty0 : Nat → FieldType) (d : decode cc pc = .ok (.putfield index, 3)) (hlink : Cond.fieldLink own index (T0 kf).1 (T0 kf).2.1 (T0 kf).2.2.1 ∈ ab_big) (hc : ab_cl[ci]? = some (C, T0, N)) (hin : ∀ w ∈ u_ws C T0 N, w ∈ ab_big)
    (hty : ∀ k, k < N → parseFieldDescriptor (T0 k).2.2.1 = some (ty0 k)) (hnm : ∀ a, a < N → ∀ b, b < N → a ≠ b → (T0 a).2.1 ≠ (T0 b).2.1) (hk : kf < N) (hfin : (T0 kf).2.2.2 = true) (hRo : R.locals % 2 = 1) (hdecl : (T0 kf).1 = own) (hd : parseFieldDescriptor (T0 kf).2.2.1 = some ty) (hn : ∀ α, narrow ty (ab_cv α v) = ab_cv α v) (hfit : ∀ α, fits ty (ab_cv α v) = true) (ha : a < n) (he : h a = .inr (ci, fs)) (hl0 : kf < fs.length)
    (K : WX Xx own cc nL hh R Q k z (pc + 3) ls st n (ab_up h a (.inr (ci, fs.set kf v)))) : WX Xx own cc nL hh R Q k z pc ls (v :: .ref a :: st) n h := by
  intro p l e s m args below meth c base D T C0 α H L locs Fin hC hW hL hs hl hS hF hT
  have hw := hW.2.2.1 a ha
  have hg := ab_wl_get (α := α) (T := T) (h := h) ha
  rw [he] at hw hg
  refine va_putF C0.1 C0.2.1 C0.2.2.2.2.1 hin ty0 hty hnm C0.2.2.2.1 C0.2.2.2.2.2.1 hW.1 hW.2.1 hS a hg hc kf hk (C0.2.2.2.2.1 _ hlink) (fun x hx => hx) hfin (C0.2.2.2.2.2.2.2.2.2.2.1 hRo) hdecl hd (hn α) (hfit α) (by rw [List.length_map]; exact hl0) d (fun H1 locs1 hP1 hD1 hS1 => ?_)
  rw [ab_map_set] at hP1 hD1
  exact K p l e s m args below meth c base D T C0 α H1 L locs1 Fin hC (ab_Wd.set ha hW (ab_we_set (hs _ List.mem_cons_self) hw) hP1 hD1) hL (ab_wst (ab_wst hs)) hl hS1 hF hT
end HP
