/-! THE ABSTRACT JUDGEMENT: methods and calls. -/
theorem vx_toMet {l : Launch} {y : MethodName} {ws : List Cond} {rm : Room} {Pc : Array Value → State → Prop} {Qc : Array Value → State → Outcome → State → Prop} {XC : String → State → State → Prop} {mc ms : Nat} {free : Addr → Prop}
    (h : vx_Met l y ws rm Pc Qc XC mc ms free) (hx : ∀ E s t, ¬ XC E s t) : Met l y ws rm Pc Qc mc ms free := by
  intro p e ha hc hk s m args below hf happ hP hK
  obtain ⟨n, o, h1, h2, h3, hQ⟩ := h p e ha hc hk s m args below hf happ hP hK
  refine ⟨n, o, h1, h2, h3, ?_⟩
  rcases hQ with hQ | ⟨q, ho, E, ce, L, hx1, _⟩
  · exact hQ
  · exact absurd hx1 (hx _ _ _)
/-- as vx_ofW and vx_ofWH of the kit, for methods of java/lang/Math too -/
theorem vx_ofWF {l : Launch} {y : MethodName} {ws ws' : List Cond} {rm : Room} {Pc : Array Value → State → Prop} {Qc : Array Value → State → Outcome → State → Prop} {XC : String → State → State → Prop} {mc ms : Nat} {free : Addr → Prop} {cc : ByteArray} {maxL : Nat} {ret : Option FieldType}
    (hy : plainFor y = true) (hw : ws = Cond.code y cc maxL ret :: ws')
    (body : ∀ p e s m args below meth c s₁, BodyLoose p l y (headSpec ws rm) cc maxL ret e s m args below meth c s₁ → c.maxLocals = maxL → (∀ x ∈ c.exceptionTable.toList, False) → Pc args s →
      W p l e (headSpec ws rm).room s m args below meth c s.heap [] 0 0 (vx_MQ below Qc XC args s mc ms free) (entryFrame m args maxL)) : vx_Met l y ws rm Pc Qc XC mc ms free := by
  refine MetFree.of_bodySF (code := cc) (maxLocals := maxL) (ret := ret) hy ?_ ?_
  · intro args s m h hn
    obtain ⟨meth, c, h1, h2, h3, h4, h5, h6, -, -⟩ := Cond.code_spec hn (atoms_spec (ws := ws) h _ (by rw [hw]; exact List.mem_cons_self))
    exact ⟨meth, c, h1, h2, h3, h4, h5, h6⟩
  · intro p e s m args below meth c s₁ B hml hP _
    have hh0 : s₁.heap = s.heap := by rw [B.state]; rfl
    have ht : ∀ x ∈ c.exceptionTable.toList, False := by
      obtain ⟨meth9, c9, h1, h2, -, -, -, -, h7, -⟩ := Cond.code_spec B.named (atoms_spec (ws := ws) B.pre _ (by rw [hw]; exact List.mem_cons_self))
      cases Option.some.inj (h1.symm.trans B.method)
      cases Option.some.inj (h2.symm.trans (Stand.of_body B).code)
      intro x hx
      rw [Array.isEmpty_iff.mp h7] at hx
      cases hx
    obtain ⟨t, a1, o, b1, b2, b3⟩ := body p e s m args below meth c s₁ B hml ht hP s₁ hh0 (Stand.of_body B)
    exact ⟨t, o, a1, b1, b2, b3⟩
theorem vx_ofWHF {l : Launch} {y : MethodName} {ws ws' : List Cond} {rm : Room} {Pc : Array Value → State → Prop} {Qc : Array Value → State → Outcome → State → Prop} {XC : String → State → State → Prop} {mc ms : Nat} {free : Addr → Prop} {cc : ByteArray} {maxL : Nat} {ret : Option FieldType} {hh : List (Nat × Nat × Nat × Nat)}
    (hy : plainFor y = true) (hw : ws = Cond.codeWith y cc maxL ret hh :: ws')
    (body : ∀ p e s m args below meth c s₁, BodyLoose p l y (headSpec ws rm) cc maxL ret e s m args below meth c s₁ → c.maxLocals = maxL → Pc args s →
      W p l e (headSpec ws rm).room s m args below meth c s.heap [] 0 0 (vx_MQ below Qc XC args s mc ms free) (entryFrame m args maxL)) : vx_Met l y ws rm Pc Qc XC mc ms free := by
  refine MetFree.of_bodySF (code := cc) (maxLocals := maxL) (ret := ret) hy ?_ ?_
  · intro args s m h hn
    obtain ⟨m9, meth, c, hn9, h1, h2, h3, h4, -, h5, h6, -⟩ := Cond.codeWith_spec (atoms_spec (ws := ws) h _ (by rw [hw]; exact List.mem_cons_self))
    cases hn.symm.trans hn9
    exact ⟨meth, c, h1, h2, h3, h4, h5, h6⟩
  · intro p e s m args below meth c s₁ B hml hP _
    have hh0 : s₁.heap = s.heap := by rw [B.state]; rfl
    obtain ⟨t, a1, o, b1, b2, b3⟩ := body p e s m args below meth c s₁ B hml hP s₁ hh0 (Stand.of_body B)
    exact ⟨t, o, a1, b1, b2, b3⟩
def ab_rm (d mc ms : Nat) : Room := { frames := d + 3, cells := mc, slots := ms, locals := 40 * d + 70 }
def ab_el (as : List Value) : List (Option Value) := as.flatMap (fun v => if v.category = 2 then [some v, none] else [some v])
def ab_en (maxL : Nat) (as : List Value) : List (Option Value) := ab_el as ++ List.replicate (maxL - (ab_el as).length) none
theorem ab_el_len (as : List Value) (α : Nat → Nat) : (lg_sl (as.map (ab_cv α))).length = (ab_el as).length := by
  induction as with
  | nil => rfl
  | cons v vs ih =>
    simp only [lg_sl, ab_el, List.map_cons, List.flatMap_cons, List.length_append, ab_cat] at ih ⊢
    rw [ih]
    split <;> rfl
theorem ab_el_args (α : Nat → Nat) (w : Value) : ∀ (as : List Value) (o i : Nat), (ab_el as)[i]? = some (some w) → (o + i, ab_cv α w) ∈ lv_args o (as.map (ab_cv α)) := by
  intro as
  induction as with
  | nil => intro o i h; simp [ab_el] at h
  | cons v vs ih =>
    intro o i h
    simp only [ab_el, List.flatMap_cons] at h
    simp only [List.map_cons, lv_args, ab_cat]
    by_cases hc : v.category = 2
    · rw [if_pos hc] at h ⊢
      match i, h with
      | 0, h => simp at h; subst h; exact List.mem_cons_self
      | 1, h => simp at h
      | i + 2, h =>
        have h' : (ab_el vs)[i]? = some (some w) := by simpa [ab_el] using h
        have := ih (o + 2) i h'
        rw [show o + (i + 2) = o + 2 + i by omega]
        exact List.mem_cons_of_mem _ this
    · rw [if_neg hc] at h ⊢
      match i, h with
      | 0, h => simp at h; subst h; exact List.mem_cons_self
      | i + 1, h =>
        have h' : (ab_el vs)[i]? = some (some w) := by simpa [ab_el] using h
        have := ih (o + 1) i h'
        rw [show o + (i + 1) = o + 1 + i by omega]
        exact List.mem_cons_of_mem _ this
theorem ab_en_LR {α : Nat → Nat} {maxL : Nat} {as : List Value} (hlen : (ab_el as).length ≤ maxL) :
    ab_LR α maxL (ab_en maxL as) ((lg_sl (as.map (ab_cv α)) ++ List.replicate (maxL - (lg_sl (as.map (ab_cv α))).length) Slot.unset).toArray) := by
  have h := lv_entry (as.map (ab_cv α)) (n := maxL) (by rw [ab_el_len]; exact hlen)
  refine ⟨⟨h.1, h.2.1, fun q hq => ?_⟩, by simp only [ab_en, List.length_append, List.length_replicate]; omega⟩
  obtain ⟨i, w⟩ := q
  obtain ⟨v, hv, rfl⟩ := ab_ll_mem.mp hq
  refine h.2.2 (i, ab_cv α v) ?_
  have hv' : (ab_el as)[i]? = some (some v) := by
    unfold ab_en at hv
    by_cases hi : i < (ab_el as).length
    · rwa [List.getElem?_append_left hi] at hv
    · rw [List.getElem?_append_right (by omega), List.getElem?_replicate] at hv
      split at hv <;> cases hv
  have := ab_el_args α v as 0 i hv'
  rwa [Nat.zero_add] at this
theorem ab_en_w {n maxL : Nat} {as : List Value} (h : ∀ v ∈ as, ab_wv n v) : ∀ v, some v ∈ ab_en maxL as → ab_wv n v := by
  intro v hv
  unfold ab_en at hv
  rcases List.mem_append.mp hv with hv | hv
  · obtain ⟨u, hu, hv⟩ := List.mem_flatMap.mp hv
    split at hv
    · rcases List.mem_cons.mp hv with e | hv
      · cases e; exact h v hu
      · rcases List.mem_cons.mp hv with e | hv
        · cases e
        · cases hv
    · rcases List.mem_cons.mp hv with e | hv
      · cases e; exact h v hu
      · cases hv
  · have := (List.mem_replicate.mp hv).2
    cases this
theorem ab_Wd.kept {base : Nat} {D : va_G} {T : Nat → ClassId} {α : Nat → Nat} {n : Nat} {h : ab_H} {H H1 : Heap} (hW : ab_Wd base D T α n h H) (hk : ∀ q : Nat, q < H.size → H1[q]? = H[q]?) : ab_Wd base D T α n h H1 :=
  ⟨fun k q hq => (hW.1 k q hq).kept (hk _ (hW.1 k q hq).lt), hW.2⟩
theorem ab_Cn.mv {base : Nat} {D : va_G} {T : Nat → ClassId} {α : Nat → Nat} {s U : State} {H : Heap} (h : ab_Cn base D T α s H) (hW : s.WarmedH U.vm) {H1 : Heap} (hk : ∀ q : Nat, q < H.size → ¬ ab_A base q → H1[q]? = H[q]?) : ab_Cn base D T α U H1 := by
  obtain ⟨h1, h2, h3, h4, h5, ⟨h6, h7⟩, h8, h9, h10, h11, h12, hd, hsc, w, hw, h13⟩ := h
  refine ⟨fun i hi1 hi => (h1 i hi1 hi).mv hW.alike hk, fun i hi => ⟨((h2 i hi).1.moved hW.alike).kept hk, ((h2 i hi).2.1.moved hW.alike).kept hk, ((h2 i hi).2.2.moved hW.alike).kept hk⟩, h3, fun q hq => ((h4 q hq).moved hW.alike).kept hk, fun j q hq => (h5 j q hq).warm hW,
    ⟨(vx_Zq.moved hW.alike h6).kept hk, (vx_Zq.moved hW.alike h7).kept hk⟩, fun q hq => va_Nw.warmM hW (h8 q hq), fun q hq => va_Nw.warmF hW (h9 q hq), fun q hq => va_Nw.warmC hW (h10 q hq), fun q hq => (h11 q hq).moved hW.alike, fun q hq => (h12 q hq).moved hW.alike, fun q hq => va_Nw.warmD hW (hd q hq), hsc, w, hw, (h13.moved hW.alike).kept hk⟩
/-- a method's start, in numbered cells -/
def ab_Pw (base : Nat) (D : va_G) (T : Nat → ClassId) (α : Nat → Nat) (n : Nat) (h : ab_H) (U : State) : Prop :=
  ab_Wd base D T α n h U.heap ∧ ab_Cn base D T α U U.heap ∧ va_K D ab_cl (ab_tys T) U ∧ base ≤ U.heap.size
def ab_Pc (base : Nat) (D : va_G) (T : Nat → ClassId) (α : Nat → Nat) (n : Nat) (h : ab_H) (as : List Value) : Array Value → State → Prop := va_Pc (as.map (ab_cv α)) (ab_Pw base D T α n h)
def ab_Qc (base : Nat) (D : va_G) (T : Nat → ClassId) (α : Nat → Nat) (n : Nat) (Q : ab_R → Nat → ab_H → Prop) : Array Value → State → Outcome → State → Prop := fun _ st o t =>
  (∃ (ro : Option Value) (n' : Nat) (h' : ab_H) (α' : Nat → Nat), o = .returned (ro.map (ab_cv α')) ∧ Q (.inl ro) n' h' ∧ n ≤ n' ∧ ab_Ag n α α' ∧ ab_Wd base D T α' n' h' t.heap ∧ ∀ v, ro = some v → ab_wv n' v) ∧ va_F (ab_A base) st t
def ab_XC (base : Nat) (D : va_G) (T : Nat → ClassId) (α : Nat → Nat) (n : Nat) (Q : ab_R → Nat → ab_H → Prop) : String → State → State → Prop := fun E st t =>
  (∃ (n' : Nat) (h' : ab_H) (α' : Nat → Nat), Q (.inr E) n' h' ∧ n ≤ n' ∧ ab_Ag n α α' ∧ ab_Wd base D T α' n' h' t.heap) ∧ va_F (ab_A base) st t
theorem ab_Pc_blind {base : Nat} {D : va_G} {T : Nat → ClassId} {α : Nat → Nat} {n : Nat} {h : ab_H} {as : List Value} : FrameBlind (ab_Pc base D T α n h as) := by
  intro a U g mk hq
  obtain ⟨h0, h1, h2, h3, h4⟩ := hq
  refine ⟨h0, h1, ?_, va_K.moved (u := U) (U := U.calling g mk a) (Vm.Alike.refl U.vm) h3, h4⟩
  exact h2.mv (U := U.calling g mk a) (State.WarmedH.refl U) (fun _ _ _ => rfl)
def ab_rok (ret : Option FieldType) (r : ab_R) : Prop := match r with
  | .inl none => ret = none
  | .inl (some (.int v)) => ∃ ty, ret = some ty ∧ narrow ty (.int v) = .int v
  | .inl (some (.long _)) => ret = some .long
  | .inl (some (.float _)) => ret = some .float
  | .inl (some (.double _)) => ret = some .double
  | .inl (some .null) => ∃ ty, ret = some ty ∧ ((∃ c, ty = .object c) ∨ ∃ t, ty = .array t)
  | .inl (some (.ref _)) => ∃ ty, ret = some ty ∧ ((∃ c, ty = .object c) ∨ ∃ t, ty = .array t)
  | .inl (some _) => False
  | .inr _ => True
/-- A METHOD: from its arguments and the world it comes to Q, within its room -/
def AM (y : MethodName) (cc : ByteArray) (maxL : Nat) (ret : Option FieldType) (hh : List (Nat × Nat × Nat × Nat)) (d mc ms : Nat) (as : List Value) (n : Nat) (h : ab_H) (Q : ab_R → Nat → ab_H → Prop) : Prop :=
  (∀ v ∈ as, ab_wv n v) → WA y.cls cc maxL hh (ab_rm d mc ms) (fun r k z n' h' => k ≤ mc ∧ z ≤ ms ∧ ab_rok ret r ∧ Q r n' h') 0 0 0 (ab_en maxL as) [] n h
theorem AM.body {y : MethodName} {cc : ByteArray} {maxL : Nat} {ret : Option FieldType} {hh : List (Nat × Nat × Nat × Nat)} {d mc ms : Nat} {as : List Value} {n : Nat} {h : ab_H} {Q : ab_R → Nat → ab_H → Prop}
    (hA : AM y cc maxL ret hh d mc ms as n h Q) (has : ∀ v ∈ as, ab_wv n v) (hlen : (ab_el as).length ≤ maxL) {l : Launch} (hl : l.stackTraces = false) {base : Nat} {D : va_G} {T : Nat → ClassId} {α : Nat → Nat} {ws ws' : List Cond} {c0 : Cond} (hw : ws = c0 :: ab_big)
    {p : Program} {e : Env} {s s₁ : State} {m : MethodId} {args : Array Value} {below : List Frame} {meth : Method} {c : Code} (B : BodyLoose p l y (headSpec ws (ab_rm d mc ms)) cc maxL ret e s m args below meth c s₁) (hml : c.maxLocals = maxL) (htab : c.exceptionTable.toList = tableOf hh) (hP : ab_Pc base D T α n h as args s) :
    W p l e (ab_rm d mc ms) s m args below meth c s.heap [] 0 0 (vx_MQ below (ab_Qc base D T α n Q) (ab_XC base D T α n Q) args s mc ms (ab_A base)) (entryFrame m args maxL) := by
  obtain ⟨rfl, hWd, hCn, hK, hb⟩ := hP
  have hts := atoms_spec (ws := ws) B.pre
  have hC0 : ab_Ctx ab_X0 y.cls cc maxL hh (ab_rm d mc ms) p l s m (as.map (ab_cv α)).toArray meth c base D T :=
    ⟨B.exec, B.bytes, hml, findClass_of_methodNamed B.named, fun w hw1 => hts w (by rw [hw]; exact List.mem_cons_of_mem _ hw1), hK, hb, htab, B.notSynchronized, hl, fun z => absurd z (by show ¬ (40 * d + 70) % 2 = 1; omega), trivial⟩
  rw [lg_entry_eq]
  have hlk := B.notSynchronized
  refine hA has p l e s m _ below meth c base D T hC0 α s.heap _ [] _ hCn hWd (ab_en_LR hlen) (fun v hv => absurd hv List.not_mem_nil) (ab_en_w has) va_S.rf ?_ ?_
  · intro ro n' h' α' H' L' locs' k' z' pc' ins hQ hn hag hW hS hL' hwv hri hd
    obtain ⟨h1, h2, h3, h4⟩ := hQ
    have hq : ∀ t : State, t.heap = H' → s.WarmedH t.vm → ab_Qc base D T α n Q (as.map (ab_cv α)).toArray s (.returned (ro.map (ab_cv α'))) t := fun t ht _ => ⟨⟨ro, n', h', α', rfl, h4, hn, hag, by rw [ht]; exact hW, hwv⟩, hS.F ht⟩
    refine W.widen h1 h2 (vx_ret ?_)
    match ro, h3, hri, hq with
    | none, h3, hri, hq => cases hri; exact W.vret B.exec B.bytes (B.returns.trans h3) hq hS.2.2 hd hlk
    | some (.int v), ⟨ty, h3, h5⟩, hri, hq => cases hri; exact W.zret B.exec B.bytes (B.returns.trans h3) h5 hq hS.2.2 hd hlk
    | some (.long v), h3, hri, hq => cases hri; exact W.lret B.exec B.bytes (B.returns.trans h3) hq hS.2.2 hd hlk
    | some (.float v), h3, hri, hq => cases hri; exact W.fret B.exec B.bytes (B.returns.trans h3) hq hS.2.2 hd hlk
    | some (.double v), h3, hri, hq => cases hri; exact W.dret B.exec B.bytes (B.returns.trans h3) hq hS.2.2 hd hlk
    | some .null, ⟨ty, h3, h5⟩, hri, hq => cases hri; exact W.aret B.exec B.bytes (B.returns.trans h3) h5 (Or.inl rfl) hq hS.2.2 hd hlk
    | some (.ref a), ⟨ty, h3, h5⟩, hri, hq => cases hri; exact W.aret B.exec B.bytes (B.returns.trans h3) h5 (Or.inr ⟨_, rfl⟩) hq hS.2.2 hd hlk
  · constructor
    · intro E n' h' α' H' L' locs' k' z' pc' st' q ce hQ hn hag hW hS hce hv hcl hout
      obtain ⟨h1, h2, h3, h4⟩ := hQ
      exact vx_out hout hlk hce hv hcl (fun t ht _ => ⟨⟨n', h', α', h4, hn, hag, by rw [ht]; exact hW⟩, hS.F ht⟩) hS.2.2 h1 h2
    · intro E n' h' α' H' L' locs' k' z' g hQ hn hag hW hS hb
      obtain ⟨h1, h2, h3, h4⟩ := hQ
      exact hb _ _ _ _ (fun t _ hz hq => ⟨⟨n', h', α', h4, hn, hag, hW.kept hq⟩, ⟨Nat.le_trans hS.1 hz, fun q hq1 hq2 => (hq q (Nat.lt_of_lt_of_le hq1 hS.1)).trans (hS.2.1 q hq1 hq2)⟩⟩) hS.2.2 h1 h2
theorem AM.vx {y : MethodName} {cc : ByteArray} {maxL : Nat} {ret : Option FieldType} {d mc ms : Nat} {as : List Value} {n : Nat} {h : ab_H} {Q : ab_R → Nat → ab_H → Prop}
    (hA : AM y cc maxL ret [] d mc ms as n h Q) (has : ∀ v ∈ as, ab_wv n v) (hlen : (ab_el as).length ≤ maxL) (hy : plainFor y = true) {l : Launch} (hl : l.stackTraces = false) (base : Nat) (D : va_G) (T : Nat → ClassId) (α : Nat → Nat) :
    vx_Met l y (Cond.code y cc maxL ret :: ab_big) (ab_rm d mc ms) (ab_Pc base D T α n h as) (ab_Qc base D T α n Q) (ab_XC base D T α n Q) mc ms (ab_A base) := by
  refine vx_ofWF (cc := cc) (maxL := maxL) (ret := ret) hy rfl ?_
  intro p e s m args below meth c s₁ B hml hx hP
  refine hA.body has hlen hl (ws' := []) rfl B hml ?_ hP
  cases hz : c.exceptionTable.toList with
  | nil => rfl
  | cons x xs => exact (hx x (by rw [hz]; exact List.mem_cons_self)).elim
theorem AM.vxW {y : MethodName} {cc : ByteArray} {maxL : Nat} {ret : Option FieldType} {hh : List (Nat × Nat × Nat × Nat)} {d mc ms : Nat} {as : List Value} {n : Nat} {h : ab_H} {Q : ab_R → Nat → ab_H → Prop}
    (hA : AM y cc maxL ret hh d mc ms as n h Q) (has : ∀ v ∈ as, ab_wv n v) (hlen : (ab_el as).length ≤ maxL) (hy : plainFor y = true) {l : Launch} (hl : l.stackTraces = false) (base : Nat) (D : va_G) (T : Nat → ClassId) (α : Nat → Nat) :
    vx_Met l y (Cond.codeWith y cc maxL ret hh :: ab_big) (ab_rm d mc ms) (ab_Pc base D T α n h as) (ab_Qc base D T α n Q) (ab_XC base D T α n Q) mc ms (ab_A base) := by
  refine vx_ofWHF (cc := cc) (maxL := maxL) (ret := ret) (hh := hh) hy rfl ?_
  intro p e s m args below meth c s₁ B hml hP
  have htab := vx_table (x := y) B (atoms_spec (ws := Cond.codeWith y cc maxL ret hh :: ab_big) B.pre _ List.mem_cons_self)
  exact hA.body has hlen hl (ws' := []) rfl B hml htab hP

