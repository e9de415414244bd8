/-! A METHOD THAT READS THE SCRIPT: a fact of the start goes with it. -/
def ab_XS (L : Nat) (xs : Nat → Int32) : ab_X := fun s T b0 => va_X (T 1000) L xs s s.heap ∧ T 1000 < b0
section XS
variable {own : String} {cc : ByteArray} {nL : Nat} {hh : List (Nat × Nat × Nat × Nat)} {R : Room} {Q : ab_Q} {k z pc : Nat} {ls : List (Option Value)} {st : List Value} {n : Nat} {h : ab_H} {L : Nat} {xs : Nat → Int32}
theorem wx_sld {j : Nat} {i : Int32} (d : decode cc pc = .ok (.iaload, 1)) (hj : i.toInt = (j : Int)) (hjl : j < L) (K : WX (ab_XS L xs) own cc nL hh R Q k z (pc + 1) ls (.int (xs j) :: st) n h) : WX (ab_XS L xs) own cc nL hh R Q k z pc ls (.int i :: .ref (ab_CB + 500000) :: st) n h := by
  intro p l e s m args below meth c base D T C0 α H L0 locs Fin hC hW hL hs hl hS hF hT
  obtain ⟨hX, hb⟩ := C0.2.2.2.2.2.2.2.2.2.2.2
  have ha : α (ab_CB + 500000) = T 1000 := hC.2.2.2.2.2.2.2.2.2.2.2.2.1
  have hbs := C0.2.2.2.2.2.2.1
  have hb2 : (show Nat from T 1000) < base := hb
  have hb3 : (show Nat from T 1000) < s.heap.size := Nat.lt_of_lt_of_le hb2 hbs
  obtain ⟨hin, hjj⟩ := ab_ix hj hjl
  show W p l e R s m args below meth c H locs k z Fin (F0 m pc L0 (.int i :: .ref (α (ab_CB + 500000)) :: st.map (ab_cv α)))
  rw [ha]
  refine va_sld C0.1 C0.2.1 hX hb3 (fun z => Nat.lt_irrefl _ (Nat.lt_of_lt_of_le hb2 z)) hS hin d ?_
  rw [hjj]
  exact K p l e s m args below meth c base D T C0 α H L0 locs Fin hC hW hL (ab_ws1 ab_wi (ab_wst (ab_wst hs))) hl hS hF hT
theorem wx_slen {v : Int32} (d : decode cc pc = .ok (.arraylength, 1)) (hv : Int32.ofNat L = v) (K : WX (ab_XS L xs) own cc nL hh R Q k z (pc + 1) ls (.int v :: st) n h) : WX (ab_XS L xs) own cc nL hh R Q k z pc ls (.ref (ab_CB + 500000) :: st) n h := by
  subst hv
  intro p l e s m args below meth c base D T C0 α H L0 locs Fin hC hW hL hs hl hS hF hT
  obtain ⟨hX, hb⟩ := C0.2.2.2.2.2.2.2.2.2.2.2
  have ha : α (ab_CB + 500000) = T 1000 := hC.2.2.2.2.2.2.2.2.2.2.2.2.1
  have hbs := C0.2.2.2.2.2.2.1
  have hb2 : (show Nat from T 1000) < base := hb
  have hb3 : (show Nat from T 1000) < s.heap.size := Nat.lt_of_lt_of_le hb2 hbs
  show W p l e R s m args below meth c H locs k z Fin (F0 m pc L0 (.ref (α (ab_CB + 500000)) :: st.map (ab_cv α)))
  rw [ha]
  refine va_slen C0.1 C0.2.1 hX hb3 (fun z => Nat.lt_irrefl _ (Nat.lt_of_lt_of_le hb2 z)) hS d ?_
  exact K p l e s m args below meth c base D T C0 α H L0 locs Fin hC hW hL (ab_ws1 ab_wi (ab_wst hs)) hl hS hF hT
end XS
/-- a fact of the start that holds where all below the base is as it was -/
def ab_XM (X : ab_X) : Prop := ∀ (s U : State) (T : Nat → ClassId) (base : Nat), X s T base → s.WarmedH U.vm → (∀ q : Nat, q < s.heap.size → ¬ ab_A base q → U.heap[q]? = s.heap[q]?) → X U T base
theorem ab_XS_M (L : Nat) (xs : Nat → Int32) : ab_XM (ab_XS L xs) := by
  intro s U T base h hw hq
  obtain ⟨h1, h2⟩ := h
  obtain ⟨scr, g1, g2⟩ := h1
  have hl : (show Nat from T 1000) < s.heap.size := (Array.getElem?_eq_some_iff.mp g1).1
  have hb : (show Nat from T 1000) < base := h2
  have hX : va_X (T 1000) L xs s s.heap := ⟨scr, g1, g2⟩
  exact ⟨va_X.kept (va_X.moved hw.alike hX) (hq _ hl (fun z => Nat.lt_irrefl _ (Nat.lt_of_lt_of_le hb z))), h2⟩
def ab_PwX (Xx : ab_X) (base : Nat) (D : va_G) (T : Nat → ClassId) (α : Nat → Nat) (n : Nat) (h : ab_H) (U : State) : Prop := ab_Pw base D T α n h U ∧ Xx U T base
def ab_PcX (Xx : ab_X) (base : Nat) (D : va_G) (T : Nat → ClassId) (α : Nat → Nat) (n : Nat) (h : ab_H) (as : List Value) : Array Value → State → Prop := va_Pc (as.map (ab_cv α)) (ab_PwX Xx base D T α n h)
theorem ab_PcX_blind {Xx : ab_X} (hX : ab_XM Xx) {base : Nat} {D : va_G} {T : Nat → ClassId} {α : Nat → Nat} {n : Nat} {h : ab_H} {as : List Value} : FrameBlind (ab_PcX Xx base D T α n h as) := by
  intro a U g mk hq
  obtain ⟨h0, ⟨h1, h2, h3, h4⟩, h5⟩ := hq
  refine ⟨h0, ⟨h1, ?_, va_K.moved (u := U) (U := U.calling g mk a) (Vm.Alike.refl U.vm) h3, h4⟩, hX U (U.calling g mk a) T base h5 (State.WarmedH.refl U) (fun _ _ _ => rfl)⟩
  exact h2.mv (U := U.calling g mk a) (State.WarmedH.refl U) (fun _ _ _ => rfl)
/-- A METHOD with a fact of the start -/
def AMX (Xx : ab_X) (y : MethodName) (cc : ByteArray) (maxL : Nat) (ret : Option FieldType) (hh : List (Nat × Nat × Nat × Nat)) (d mc ms : Nat) (as : List Value) (n : Nat) (h : ab_H) (Q : ab_R → Nat → ab_H → Prop) : Prop :=
  (∀ v ∈ as, ab_wv n v) → WX Xx y.cls cc maxL hh (ab_rm d mc ms) (fun r k z n' h' => k ≤ mc ∧ z ≤ ms ∧ ab_rok ret r ∧ Q r n' h') 0 0 0 (ab_en maxL as) [] n h
theorem AMX.body {Xx : ab_X} {y : MethodName} {cc : ByteArray} {maxL : Nat} {ret : Option FieldType} {hh : List (Nat × Nat × Nat × Nat)} {d mc ms : Nat} {as : List Value} {n : Nat} {h : ab_H} {Q : ab_R → Nat → ab_H → Prop}
    (hA : AMX Xx y cc maxL ret hh d mc ms as n h Q) (has : ∀ v ∈ as, ab_wv n v) (hlen : (ab_el as).length ≤ maxL) {l : Launch} (hl : l.stackTraces = false) {base : Nat} {D : va_G} {T : Nat → ClassId} {α : Nat → Nat} {ws ws' : List Cond} {c0 : Cond} (hw : ws = c0 :: ab_big)
    {p : Program} {e : Env} {s s₁ : State} {m : MethodId} {args : Array Value} {below : List Frame} {meth : Method} {c : Code} (B : BodyLoose p l y (headSpec ws (ab_rm d mc ms)) cc maxL ret e s m args below meth c s₁) (hml : c.maxLocals = maxL) (htab : c.exceptionTable.toList = tableOf hh) (hP : ab_PcX Xx base D T α n h as args s) :
    W p l e (ab_rm d mc ms) s m args below meth c s.heap [] 0 0 (vx_MQ below (ab_Qc base D T α n Q) (ab_XC base D T α n Q) args s mc ms (ab_A base)) (entryFrame m args maxL) := by
  obtain ⟨rfl, ⟨hWd, hCn, hK, hb⟩, hXu⟩ := hP
  have hts := atoms_spec (ws := ws) B.pre
  have hC0 : ab_Ctx Xx y.cls cc maxL hh (ab_rm d mc ms) p l s m (as.map (ab_cv α)).toArray meth c base D T :=
    ⟨B.exec, B.bytes, hml, findClass_of_methodNamed B.named, fun w hw1 => hts w (by rw [hw]; exact List.mem_cons_of_mem _ hw1), hK, hb, htab, B.notSynchronized, hl, fun z => absurd z (by show ¬ (40 * d + 70) % 2 = 1; omega), hXu⟩
  rw [lg_entry_eq]
  have hlk := B.notSynchronized
  refine hA has p l e s m _ below meth c base D T hC0 α s.heap _ [] _ hCn hWd (ab_en_LR hlen) (fun v hv => absurd hv List.not_mem_nil) (ab_en_w has) va_S.rf ?_ ?_
  · intro ro n' h' α' H' L' locs' k' z' pc' ins hQ hn hag hW hS hL' hwv hri hd
    obtain ⟨h1, h2, h3, h4⟩ := hQ
    have hq : ∀ t : State, t.heap = H' → s.WarmedH t.vm → ab_Qc base D T α n Q (as.map (ab_cv α)).toArray s (.returned (ro.map (ab_cv α'))) t := fun t ht _ => ⟨⟨ro, n', h', α', rfl, h4, hn, hag, by rw [ht]; exact hW, hwv⟩, hS.F ht⟩
    refine W.widen h1 h2 (vx_ret ?_)
    match ro, h3, hri, hq with
    | none, h3, hri, hq => cases hri; exact W.vret B.exec B.bytes (B.returns.trans h3) hq hS.2.2 hd hlk
    | some (.int v), ⟨ty, h3, h5⟩, hri, hq => cases hri; exact W.zret B.exec B.bytes (B.returns.trans h3) h5 hq hS.2.2 hd hlk
    | some (.long v), h3, hri, hq => cases hri; exact W.lret B.exec B.bytes (B.returns.trans h3) hq hS.2.2 hd hlk
    | some (.float v), h3, hri, hq => cases hri; exact W.fret B.exec B.bytes (B.returns.trans h3) hq hS.2.2 hd hlk
    | some (.double v), h3, hri, hq => cases hri; exact W.dret B.exec B.bytes (B.returns.trans h3) hq hS.2.2 hd hlk
    | some .null, ⟨ty, h3, h5⟩, hri, hq => cases hri; exact W.aret B.exec B.bytes (B.returns.trans h3) h5 (Or.inl rfl) hq hS.2.2 hd hlk
    | some (.ref a), ⟨ty, h3, h5⟩, hri, hq => cases hri; exact W.aret B.exec B.bytes (B.returns.trans h3) h5 (Or.inr ⟨_, rfl⟩) hq hS.2.2 hd hlk
  · constructor
    · intro E n' h' α' H' L' locs' k' z' pc' st' q ce hQ hn hag hW hS hce hv hcl hout
      obtain ⟨h1, h2, h3, h4⟩ := hQ
      exact vx_out hout hlk hce hv hcl (fun t ht _ => ⟨⟨n', h', α', h4, hn, hag, by rw [ht]; exact hW⟩, hS.F ht⟩) hS.2.2 h1 h2
    · intro E n' h' α' H' L' locs' k' z' g hQ hn hag hW hS hb
      obtain ⟨h1, h2, h3, h4⟩ := hQ
      exact hb _ _ _ _ (fun t _ hz hq => ⟨⟨n', h', α', h4, hn, hag, hW.kept hq⟩, ⟨Nat.le_trans hS.1 hz, fun q hq1 hq2 => (hq q (Nat.lt_of_lt_of_le hq1 hS.1)).trans (hS.2.1 q hq1 hq2)⟩⟩) hS.2.2 h1 h2
theorem AMX.vx {Xx : ab_X} {y : MethodName} {cc : ByteArray} {maxL : Nat} {ret : Option FieldType} {d mc ms : Nat} {as : List Value} {n : Nat} {h : ab_H} {Q : ab_R → Nat → ab_H → Prop}
    (hA : AMX Xx y cc maxL ret [] d mc ms as n h Q) (has : ∀ v ∈ as, ab_wv n v) (hlen : (ab_el as).length ≤ maxL) (hy : plainFor y = true) {l : Launch} (hl : l.stackTraces = false) (base : Nat) (D : va_G) (T : Nat → ClassId) (α : Nat → Nat) :
    vx_Met l y (Cond.code y cc maxL ret :: ab_big) (ab_rm d mc ms) (ab_PcX Xx base D T α n h as) (ab_Qc base D T α n Q) (ab_XC base D T α n Q) mc ms (ab_A base) := by
  refine vx_ofWF (cc := cc) (maxL := maxL) (ret := ret) hy rfl ?_
  intro p e s m args below meth c s₁ B hml hx hP
  refine hA.body has hlen hl (ws' := []) rfl B hml ?_ hP
  cases hz : c.exceptionTable.toList with
  | nil => rfl
  | cons x xs => exact (hx x (by rw [hz]; exact List.mem_cons_self)).elim
section CR
variable {Xx : ab_X} {own : String} {cc : ByteArray} {nL : Nat} {hh : List (Nat × Nat × Nat × Nat)} {R : Room} {Q : ab_Q} {k z pc : Nat} {ls : List (Option Value)} {st stk : List Value} {n : Nat} {h : ab_H}
variable {index : Nat} {y : MethodName} {cc2 : ByteArray} {maxL2 : Nat} {ret2 : Option FieldType} {hh2 : List (Nat × Nat × Nat × Nat)} {d mc ms : Nat} {As : List Value} {Q0 : ab_R → Nat → ab_H → Prop}
theorem wx_callSX (dd : decode cc pc = .ok (.invokestatic index, 3)) (lk : ab_lkS own index y cc2 maxL2 ret2 As.length) (hX : ab_XM Xx) (hA : AMX Xx y cc2 maxL2 ret2 [] d mc ms As n h Q0) (hst : stk = As.reverse ++ st)
    (hlen : (ab_el As).length ≤ maxL2) (hR : ab_fit R d maxL2 mc ms k z) (hrest : (st.map fun v => v.category).sum ≤ 8)
    (kR : ∀ ro n' h', Q0 (.inl ro) n' h' → n ≤ n' → WX Xx own cc nL hh R Q (k + mc) (z + ms) (pc + 3) ls (ro.toList ++ st) n' h') (kT : ∀ E n' h', Q0 (.inr E) n' h' → n ≤ n' → WTX Xx own cc nL hh R Q (k + mc) (z + ms) pc ls E n' h') : WX Xx own cc nL hh R Q k z pc ls stk n h := by
  subst hst
  intro p l e s m args below meth c base D T C0 α H L locs Fin hC hW hL hs hl hS hF hT
  obtain ⟨hwk, hy1, hy2, hy3, hy4⟩ := lk
  have has : ∀ v ∈ As, ab_wv n v := fun v hv => hs v (List.mem_append_left _ (List.mem_reverse.mpr hv))
  have hs2 : ∀ v ∈ st, ab_wv n v := fun v hv => hs v (List.mem_append_right _ hv)
  have hM := hA.vx has hlen hy1 C0.2.2.2.2.2.2.2.2.2.1 base D T α
  have hG : GoodIn ab_big (va_wsS own index y (Cond.code y cc2 maxL2 ret2 :: ab_big)) := by
    have h9 := ab_gd hwk
    exact h9
  have cw := va_cwS (R := R) (args := args) (s := s) As.length C0.2.2.2.2.1 hG rfl (rm := ab_rm d mc ms) rfl rfl ⟨hy2, hy3, hy4⟩ ⟨by show d + 3 + 1 ≤ _; exact hR.1, by show 8 + (maxL2 + 11) + (40 * d + 70) ≤ _; exact hR.2.1⟩
  have hr := vx_runS (locs := locs) (meth := meth) (below := below) (e := e) (rest := st.map (ab_cv α)) (As := As.map (ab_cv α)) (g := F0 m pc L ((As.reverse ++ st).map (ab_cv α))) ⟨C0.1, C0.2.1, C0.2.2.1, C0.2.2.2.1, C0.2.2.2.2.1⟩ hM cw ⟨ab_PcX_blind hX, fun U hU hw => ⟨rfl, ab_pw C0 hC hW hS hU hw, hX s U T base C0.2.2.2.2.2.2.2.2.2.2.2 hw (fun q h1 h2 => by rw [hU]; exact hS.2.1 q h1 h2)⟩⟩ rfl (by rw [List.length_map]) hL.1.1
    (by show (As.reverse ++ st).map (ab_cv α) = _; rw [List.map_append, List.map_reverse]) (lv_room (by rw [ab_catsum]; exact hrest)) dd ⟨hR.2.2.1, hR.2.2.2⟩
  exact wa_back kR kT C0 hC hL hs2 hl hS hF hT hr
/-- an AM is one with any fact -/
theorem AMX.of {Xx : ab_X} {y : MethodName} {cc : ByteArray} {maxL : Nat} {ret : Option FieldType} {hh : List (Nat × Nat × Nat × Nat)} {d mc ms : Nat} {as : List Value} {n : Nat} {h : ab_H} {Q : ab_R → Nat → ab_H → Prop} (hA : AM y cc maxL ret hh d mc ms as n h Q) : AMX Xx y cc maxL ret hh d mc ms as n h Q := by
  intro has p l e s m args below meth c base D T C0
  obtain ⟨c1, c2, c3, c4, c5, c6, c7, c8, c9, c10, c11, -⟩ := C0
  exact hA has p l e s m args below meth c base D T ⟨c1, c2, c3, c4, c5, c6, c7, c8, c9, c10, c11, trivial⟩
/-- static calls of a method that answers an int and leaves all as it was -/
theorem x_SI {v : Int32} (dd : decode cc pc = .ok (.invokestatic index, 3)) (hX : ab_XM Xx) (hA : AMX Xx y cc2 maxL2 ret2 [] d mc ms As n h (fun r n' h' => r = .inl (some (.int v)) ∧ n' = n ∧ h' = h)) (lk : ab_lkS own index y cc2 maxL2 ret2 As.length) (hst : stk = As.reverse ++ st)
    (K : WX Xx own cc nL hh R Q (k + mc) (z + ms) (pc + 3) ls (.int v :: st) n h) (hlen : (ab_el As).length ≤ maxL2 := by exact Nat.le_of_ble_eq_true rfl) (hR : ab_fit R d maxL2 mc ms k z := by unfold ab_fit ab_rm; refine ⟨?_, ?_, ?_, ?_⟩ <;> simp <;> omega) (hrest : (st.map fun v => v.category).sum ≤ 8 := by exact Nat.le_of_ble_eq_true rfl) : WX Xx own cc nL hh R Q k z pc ls stk n h :=
  wx_callSX dd lk hX hA hst hlen hR hrest (fun ro n' h' hq _ => by obtain ⟨h1, rfl, rfl⟩ := hq; cases h1; exact K) (fun E n' h' hq _ => by cases hq.1)
end CR
