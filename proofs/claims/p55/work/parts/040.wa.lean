/-! THE ABSTRACT JUDGEMENT: WA: from every real frame that stands for the abstract one, the machine comes to its end. -/
/-- constants: cells, statics, literals; the two statics that an exception's constructor reads -/
-- facts of the tables that are no words of a contract: links to nest mates, casts
def ab_nM : List (String × Nat × MethodName × String) := [("ValveRoom", 9, ⟨"ValveRoom$Parser", "<init>", "()V"⟩, "ValveRoom"), ("ValveRoom$House", 27, ⟨"ValveRoom$Room", "<init>", "()V"⟩, "ValveRoom"), ("ValveRoom$Parser", 24, ⟨"ValveRoom$Tokens", "<init>", "()V"⟩, "ValveRoom"), ("ValveRoom$Tokens", 64, ⟨"ValveRoom", "spells", "([BIILjava/lang/String;)Z"⟩, "ValveRoom"), ("ValveRoom$House", 79, ⟨"ValveRoom", "spells", "([BIILjava/lang/String;)Z"⟩, "ValveRoom")]
def ab_nF : List (String × Nat × String × String × String × String) := [("ValveRoom$Tokens", 57, "ValveRoom", "KEYWORDS", "[LValveRoom$Keyword;", "ValveRoom")]
def ab_xI : String := "java/lang/IndexOutOfBoundsException"
def ab_xA : String := "java/lang/IllegalArgumentException"
def ab_xS : String := "java/lang/IllegalStateException"
def ab_xN : String := "java/util/NoSuchElementException"
def ab_nC : List (String × String) := [(ab_xI, ab_xI), (ab_xA, ab_xA), (ab_xS, ab_xS), (ab_xN, ab_xN), ("[B", "java/lang/Cloneable")]
def ab_nO : List String := ["ValveRoom$House", "ValveRoom$Room", "ValveRoom$Keyword"]
def ab_nN : List (String × String) := [(ab_xA, ab_xN), (ab_xS, ab_xN), (ab_xI, ab_xN), (ab_xA, ab_xS), (ab_xN, ab_xS), (ab_xI, ab_xS)]
-- a superclass of each thrown class declares its constructor (the tables tell it alone)
def ab_nD : List MethodName := [Bundle.initS "java/lang/RuntimeException", Bundle.initS "java/lang/Exception", Bundle.initS "java/lang/Throwable"]
-- StringBuilder's selections of its superclass's private methods: they follow from the tables
def ab_xsel : List Cond := [yJ5_ensureCapacityInternal_d00df, yJ5_newCapacity_0f7a4, yJ5_inflate_da8c8, yJ5_appendNull_278bc, yJ5_inflateIfNeededFor_a7421, yJ5_putStringAt_47b60].map (fun y => Cond.selects RJ4 y y)
abbrev ab_big : List Cond := (lw_tbl ++ ab_xsel).filter goodWord
/-- a constant cell as the Statement gives it: a String, an array -/
def ab_ke (base : Nat) (α : Nat → Nat) (U : State) (H : Heap) (a : Nat) (x : va_E) : Prop := match x with
  | .inr o => o.1 = 9 ∧ va_O RJ0 (α a) (ab_A base) U H ∧ ∀ (k : Nat) (v : Value), k < 2 → o.2[k]? = some v → va_OF (TJ0 k).1 (TJ0 k).2.1 (TJ0 k).2.2.1 (ab_cv α v) (α a) (ab_A base) U H
  | .inl (t, len, .inl f) => ∃ ty, ab_tl[t]? = some ty ∧ va_T ty (α a) len (fun j => .int (f j)) (ab_A base) U H
  | .inl (t, len, .inr (.inr (.inr (.inr f)))) => ∃ ty, ab_tl[t]? = some ty ∧ va_T ty (α a) len (fun j => va_rf ((f j).map α)) (ab_A base) U H
  | _ => False
def ab_Cn (base : Nat) (D : va_G) (T : Nat → ClassId) (α : Nat → Nat) (U : State) (H : Heap) : Prop :=
  (∀ i, (i < 112 ∨ 130 ≤ i) → i < ab_NK → ab_ke base α U H (ab_CB + i) (ab_kc i)) ∧
  (∀ i, i < 18 → va_O "ValveRoom$Keyword" (α (ab_CB + (112 + i))) (ab_A base) U H ∧ va_OF "java/lang/Enum" "ordinal" "I" (.int (Int32.ofNat i)) (α (ab_CB + (112 + i))) (ab_A base) U H ∧ va_OF "ValveRoom$Keyword" "spelling" "Ljava/lang/String;" (.ref (α (ab_CB + 2 * ((ab_kws[i]?).map (fun q => q.2)).getD 0))) (α (ab_CB + (112 + i))) (ab_A base) U H) ∧
  (∀ i j, i < 18 → j < 18 → α (ab_CB + (112 + i)) = α (ab_CB + (112 + j)) → i = j) ∧
  (∀ q ∈ ab_st, va_Z q.1 q.2.1 q.2.2.1 (ab_cv α q.2.2.2) (ab_A base) U H) ∧
  (∀ j q, ab_lits[j]? = some q → vk_R q.1 q.2.1 q.2.2.1 (α (ab_CB + 2 * j)) U) ∧
  (vx_Zq Bundle.tN "UNASSIGNED_STACK" Bundle.steD (ab_A base) U H ∧ vx_Zq Bundle.tN "SUPPRESSED_SENTINEL" Bundle.listD (ab_A base) U H) ∧
  (∀ q ∈ ab_nM, va_Nw (.methodLinkNest q.1 q.2.1 q.2.2.1 q.2.2.2) U) ∧ (∀ q ∈ ab_nF, va_Nw (.fieldLinkNest q.1 q.2.1 q.2.2.1 q.2.2.2.1 q.2.2.2.2.1 q.2.2.2.2.2) U) ∧ (∀ q ∈ ab_nC, va_Nw (.castable q.1 q.2) U) ∧ (∀ q ∈ ab_nO, va_AO q U) ∧ (∀ q ∈ ab_nN, va_Nc q.1 q.2 U) ∧
  (∀ x ∈ ab_nD, va_Nw (.declares x) U) ∧ α (ab_CB + 500000) = T 1000 ∧
  ∃ w, (w = Value.null ∨ w = Value.ref (ab_CB + 134)) ∧ va_Z "jdk/internal/util/Preconditions" "SIOOBE_FORMATTER" "Ljava/util/function/BiFunction;" (ab_cv α w) (ab_A base) U H
abbrev ab_X : Type := State → (Nat → ClassId) → Nat → Prop
def ab_X0 : ab_X := fun _ _ _ => True
def ab_Ctx (Xx : ab_X) (own : String) (cc : ByteArray) (nL : Nat) (hh : List (Nat × Nat × Nat × Nat)) (R : Room) (p : Program) (l : Launch) (s : State) (m : MethodId) (args : Array Value) (meth : Method) (c : Code) (base : Nat) (D : va_G) (T : Nat → ClassId) : Prop :=
  p.tables.exec = Jvm.exec ∧ c.code = cc ∧ c.maxLocals = nL ∧ s.vm.findClass own = some m.cls ∧ (∀ w ∈ ab_big, w.before args s = true) ∧ va_K D ab_cl (ab_tys T) s ∧ base ≤ s.heap.size ∧
  c.exceptionTable.toList = tableOf hh ∧ meth.locks = false ∧ l.stackTraces = false ∧ (R.locals % 2 = 1 → meth.name = "<init>") ∧ Xx s T base
def ab_ri (ro : Option Value) (ins : Instr) : Prop := match ro with
  | none => ins = .return_
  | some (.int _) => ins = .ireturn
  | some (.long _) => ins = .lreturn
  | some (.float _) => ins = .freturn
  | some (.double _) => ins = .dreturn
  | _ => ins = .areturn
abbrev ab_Q : Type := ab_R → Nat → Nat → Nat → ab_H → Prop
/-- what is known where the frame returns -/
def ab_Fr (p : Program) (l : Launch) (e : Env) (R : Room) (s : State) (m : MethodId) (args : Array Value) (below : List Frame) (meth : Method) (c : Code) (base : Nat) (D : va_G) (T : Nat → ClassId) (cc : ByteArray) (nL : Nat) (Fin : State → Prop) (Q : ab_Q) (n : Nat) (α : Nat → Nat) : Prop :=
  ∀ (ro : Option Value) (n' : Nat) (h' : ab_H) (α' : Nat → Nat) (H' : Heap) (L' : Array Slot) (locs' : List Loc) (k' z' pc' : Nat) (ins : Instr), Q (.inl ro) k' z' n' h' → n ≤ n' → ab_Ag n α α' → ab_Wd base D T α' n' h' H' → va_S (ab_A base) s.heap H' locs' → L'.size = nL → (∀ v, ro = some v → ab_wv n' v) → ab_ri ro ins → decode cc pc' = .ok (ins, 1) →
    W p l e R s m args below meth c H' locs' k' z' Fin (F0 m pc' L' (ro.toList.map (ab_cv α')))
/-- what is known where a thrown object leaves the frame, and where 'throw new E(text)' stands in a frame without a handler there -/
def ab_Ft (p : Program) (l : Launch) (e : Env) (R : Room) (s : State) (m : MethodId) (args : Array Value) (below : List Frame) (meth : Method) (c : Code) (base : Nat) (D : va_G) (T : Nat → ClassId) (Fin : State → Prop) (Q : ab_Q) (n : Nat) (α : Nat → Nat) : Prop :=
  (∀ (E : String) (n' : Nat) (h' : ab_H) (α' : Nat → Nat) (H' : Heap) (L' : Array Slot) (locs' : List Loc) (k' z' pc' : Nat) (st' : List Value) (q : Addr) (ce : Cell), Q (.inr E) k' z' n' h' → n ≤ n' → ab_Ag n α α' → ab_Wd base D T α' n' h' H' → va_S (ab_A base) s.heap H' locs' →
    H'[q]? = some ce → ce.vm = .none → s.vm.findClass E = some ce.cls → (∀ x ∈ c.exceptionTable.toList, covers x pc' = false) → vx_W p l e R s m args below meth c H' locs' k' z' Fin (F0 m pc' L' st') q) ∧
  (∀ (E : String) (n' : Nat) (h' : ab_H) (α' : Nat → Nat) (H' : Heap) (L' : Array Slot) (locs' : List Loc) (k' z' : Nat) (g : JFrame), Q (.inr E) (k' + 1) (z' + 6) n' h' → n ≤ n' → ab_Ag n α α' → ab_Wd base D T α' n' h' H' → va_S (ab_A base) s.heap H' locs' →
    (∀ (Qc : Array Value → State → Outcome → State → Prop) (XC : String → State → State → Prop) (mc ms : Nat), (∀ t : State, s.vm.Alike t.vm → H'.size ≤ t.heap.size → (∀ q : Nat, q < H'.size → t.heap[q]? = H'[q]?) → XC E s t) → (∀ z ∈ locs', ab_A base z.base) → k' + 1 ≤ mc → z' + 6 ≤ ms →
      W p l e R s m args below meth c H' locs' k' z' (vx_MQ below Qc XC args s mc ms (ab_A base)) g) →
    W p l e R s m args below meth c H' locs' k' z' Fin g)
def WX (Xx : ab_X) (own : String) (cc : ByteArray) (nL : Nat) (hh : List (Nat × Nat × Nat × Nat)) (R : Room) (Q : ab_Q) (k z pc : Nat) (ls : List (Option Value)) (st : List Value) (n : Nat) (h : ab_H) : Prop :=
  ∀ (p : Program) (l : Launch) (e : Env) (s : State) (m : MethodId) (args : Array Value) (below : List Frame) (meth : Method) (c : Code) (base : Nat) (D : va_G) (T : Nat → ClassId),
    ab_Ctx Xx own cc nL hh R p l s m args meth c base D T →
  ∀ (α : Nat → Nat) (H : Heap) (L : Array Slot) (locs : List Loc) (Fin : State → Prop), ab_Cn base D T α s s.heap → ab_Wd base D T α n h H → ab_LR α nL ls L → (∀ v ∈ st, ab_wv n v) → (∀ v, some v ∈ ls → ab_wv n v) → va_S (ab_A base) s.heap H locs →
    ab_Fr p l e R s m args below meth c base D T cc nL Fin Q n α → ab_Ft p l e R s m args below meth c base D T Fin Q n α →
    W p l e R s m args below meth c H locs k z Fin (F0 m pc L (st.map (ab_cv α)))
abbrev WA (own : String) (cc : ByteArray) (nL : Nat) (hh : List (Nat × Nat × Nat × Nat)) (R : Room) (Q : ab_Q) (k z pc : Nat) (ls : List (Option Value)) (st : List Value) (n : Nat) (h : ab_H) : Prop := WX ab_X0 own cc nL hh R Q k z pc ls st n h
section WA1
variable {Xx : ab_X} {own : String} {cc : ByteArray} {nL : Nat} {hh : List (Nat × Nat × Nat × Nat)} {R : Room} {Q : ab_Q} {k z pc : Nat} {ls : List (Option Value)} {st : List Value} {n : Nat} {h : ab_H}
/-- an instruction that moves the frame's stack alone -/
theorem wa_go {pc' : Nat} {st' : List Value}
    (f : ∀ {p : Program} {l : Launch} {e : Env} {s : State} {m : MethodId} {args : Array Value} {below : List Frame} {meth : Method} {c : Code} {H : Heap} {locs : List Loc} {Fin : State → Prop} {L : Array Slot} (α : Nat → Nat), p.tables.exec = Jvm.exec → c.code = cc → ab_LR α nL ls L →
      W p l e R s m args below meth c H locs k z Fin (F0 m pc' L (st'.map (ab_cv α))) → W p l e R s m args below meth c H locs k z Fin (F0 m pc L (st.map (ab_cv α))))
    (hw : (∀ v ∈ st, ab_wv n v) → (∀ v, some v ∈ ls → ab_wv n v) → ∀ v ∈ st', ab_wv n v)
    (K : WX Xx own cc nL hh R Q k z pc' ls st' n h) : WX Xx own cc nL hh R Q k z pc ls st n h := by
  intro p l e s m args below meth c base D T C α H L locs Fin hC hW hL hs hl hS hF hT
  exact f α C.1 C.2.1 hL (K p l e s m args below meth c base D T C α H L locs Fin hC hW hL (hw hs hl) hl hS hF hT)
theorem ab_ws1 {v : Value} {st' : List Value} (hv : ab_wv n v) : (∀ u ∈ st', ab_wv n u) → ∀ u ∈ v :: st', ab_wv n u := fun h u hu => by
  rcases List.mem_cons.mp hu with rfl | hu
  · exact hv
  · exact h u hu
theorem ab_wst {v : Value} {st' : List Value} : (∀ u ∈ v :: st', ab_wv n u) → ∀ u ∈ st', ab_wv n u := fun h u hu => h u (List.mem_cons_of_mem _ hu)
theorem ab_wi {n : Nat} {x : Int32} : ab_wv n (.int x) := trivial
theorem ab_wl' {n : Nat} {x : Int64} : ab_wv n (.long x) := trivial
theorem ab_wf {n : Nat} {x : UInt32} : ab_wv n (.float x) := trivial
theorem ab_wd {n : Nat} {x : UInt64} : ab_wv n (.double x) := trivial
theorem ab_wn {n : Nat} : ab_wv n .null := trivial
theorem wa_iload_n {i : Fin 4} {x : Int32} (d : decode cc pc = .ok (.iload_n i, 1)) (hl : ls[(i : Nat)]? = some (some (.int x))) (K : WX Xx own cc nL hh R Q k z (pc + 1) ls (.int x :: st) n h) : WX Xx own cc nL hh R Q k z pc ls st n h :=
  wa_go (fun α hx hb hL => lv_iload_n hx hb d rfl (hL.at hl)) (fun h _ => ab_ws1 ab_wi h) K
theorem wa_iload {i : Nat} {x : Int32} (d : decode cc pc = .ok (.iload i, 2)) (hl : ls[i]? = some (some (.int x))) (K : WX Xx own cc nL hh R Q k z (pc + 2) ls (.int x :: st) n h) : WX Xx own cc nL hh R Q k z pc ls st n h :=
  wa_go (fun α hx hb hL => lv_iload hx hb d (hL.at hl)) (fun h _ => ab_ws1 ab_wi h) K
theorem wa_lload_n {i : Fin 4} {x : Int64} (d : decode cc pc = .ok (.lload_n i, 1)) (hl : ls[(i : Nat)]? = some (some (.long x))) (K : WX Xx own cc nL hh R Q k z (pc + 1) ls (.long x :: st) n h) : WX Xx own cc nL hh R Q k z pc ls st n h :=
  wa_go (fun α hx hb hL => lv_lload_n hx hb d rfl (hL.at hl)) (fun h _ => ab_ws1 ab_wl' h) K
theorem wa_lload {i : Nat} {x : Int64} (d : decode cc pc = .ok (.lload i, 2)) (hl : ls[i]? = some (some (.long x))) (K : WX Xx own cc nL hh R Q k z (pc + 2) ls (.long x :: st) n h) : WX Xx own cc nL hh R Q k z pc ls st n h :=
  wa_go (fun α hx hb hL => lv_lload hx hb d (hL.at hl)) (fun h _ => ab_ws1 ab_wl' h) K
theorem wa_fload_n {i : Fin 4} {x : UInt32} (d : decode cc pc = .ok (.fload_n i, 1)) (hl : ls[(i : Nat)]? = some (some (.float x))) (K : WX Xx own cc nL hh R Q k z (pc + 1) ls (.float x :: st) n h) : WX Xx own cc nL hh R Q k z pc ls st n h :=
  wa_go (fun α hx hb hL => lv_fload_n hx hb d rfl (hL.at hl)) (fun h _ => ab_ws1 ab_wf h) K
theorem wa_fload {i : Nat} {x : UInt32} (d : decode cc pc = .ok (.fload i, 2)) (hl : ls[i]? = some (some (.float x))) (K : WX Xx own cc nL hh R Q k z (pc + 2) ls (.float x :: st) n h) : WX Xx own cc nL hh R Q k z pc ls st n h :=
  wa_go (fun α hx hb hL => lv_fload hx hb d (hL.at hl)) (fun h _ => ab_ws1 ab_wf h) K
theorem wa_dload_n {i : Fin 4} {x : UInt64} (d : decode cc pc = .ok (.dload_n i, 1)) (hl : ls[(i : Nat)]? = some (some (.double x))) (K : WX Xx own cc nL hh R Q k z (pc + 1) ls (.double x :: st) n h) : WX Xx own cc nL hh R Q k z pc ls st n h :=
  wa_go (fun α hx hb hL => lv_dload_n hx hb d rfl (hL.at hl)) (fun h _ => ab_ws1 ab_wd h) K
theorem wa_dload {i : Nat} {x : UInt64} (d : decode cc pc = .ok (.dload i, 2)) (hl : ls[i]? = some (some (.double x))) (K : WX Xx own cc nL hh R Q k z (pc + 2) ls (.double x :: st) n h) : WX Xx own cc nL hh R Q k z pc ls st n h :=
  wa_go (fun α hx hb hL => lv_dload hx hb d (hL.at hl)) (fun h _ => ab_ws1 ab_wd h) K
theorem wa_aload_n {i : Fin 4} {x : Nat} (d : decode cc pc = .ok (.aload_n i, 1)) (hl : ls[(i : Nat)]? = some (some (.ref x))) (K : WX Xx own cc nL hh R Q k z (pc + 1) ls (.ref x :: st) n h) : WX Xx own cc nL hh R Q k z pc ls st n h :=
  wa_go (fun α hx hb hL => lv_aload_n hx hb d rfl (hL.at hl)) (fun h hh => ab_ws1 (hh _ (List.mem_of_getElem? hl)) h) K
theorem wa_aload {i : Nat} {x : Nat} (d : decode cc pc = .ok (.aload i, 2)) (hl : ls[i]? = some (some (.ref x))) (K : WX Xx own cc nL hh R Q k z (pc + 2) ls (.ref x :: st) n h) : WX Xx own cc nL hh R Q k z pc ls st n h :=
  wa_go (fun α hx hb hL => lv_aload hx hb d (hL.at hl)) (fun h hh => ab_ws1 (hh _ (List.mem_of_getElem? hl)) h) K
theorem wa_aload_nN {i : Fin 4} (d : decode cc pc = .ok (.aload_n i, 1)) (hl : ls[(i : Nat)]? = some (some .null)) (K : WX Xx own cc nL hh R Q k z (pc + 1) ls (.null :: st) n h) : WX Xx own cc nL hh R Q k z pc ls st n h :=
  wa_go (fun α hx hb hL => lv_aload_nN hx hb d rfl (hL.at hl)) (fun h _ => ab_ws1 ab_wn h) K
/-- an instruction that stores the stack's top -/
theorem wa_st {pc' i : Nat} {v : Value} {ls' : List (Option Value)}
    (hset : ∀ u, some u ∈ ls' → u = v ∨ some u ∈ ls)
    (f : ∀ {p : Program} {l : Launch} {e : Env} {s : State} {m : MethodId} {args : Array Value} {below : List Frame} {meth : Method} {c : Code} {H : Heap} {locs : List Loc} {Fin : State → Prop} {L : Array Slot} (α : Nat → Nat), p.tables.exec = Jvm.exec → c.code = cc → ab_LR α nL ls L →
      (∀ L' : Array Slot, ab_LR α nL ls' L' → W p l e R s m args below meth c H locs k z Fin (F0 m pc' L' (st.map (ab_cv α)))) → W p l e R s m args below meth c H locs k z Fin (F0 m pc L ((v :: st).map (ab_cv α))))
    (K : WX Xx own cc nL hh R Q k z pc' ls' st n h) : WX Xx own cc nL hh R Q k z pc ls (v :: st) n h := by
  intro p l e s m args below meth c base D T C α H L locs Fin hC hW hL hs hl hS hF hT
  refine f α C.1 C.2.1 hL (fun L' hL' => K p l e s m args below meth c base D T C α H L' locs Fin hC hW hL' (ab_wst hs) (fun u hu => ?_) hS hF hT)
  rcases hset u hu with rfl | q
  · exact hs _ List.mem_cons_self
  · exact hl u q
theorem ab_mset {ls : List (Option Value)} {i : Nat} {v u : Value} (h : some u ∈ ls.set i (some v)) : u = v ∨ some u ∈ ls := by
  rcases List.mem_or_eq_of_mem_set h with q | q
  · exact Or.inr q
  · cases q; exact Or.inl rfl
theorem ab_mset2 {ls : List (Option Value)} {i : Nat} {v u : Value} (h : some u ∈ (ls.set i (some v)).set (i + 1) none) : u = v ∨ some u ∈ ls := by
  rcases List.mem_or_eq_of_mem_set h with q | q
  · exact ab_mset q
  · cases q
theorem wa_istore_n {i : Fin 4} {x : Int32} (d : decode cc pc = .ok (.istore_n i, 1)) (hc : ab_c1 ls (i : Nat) = true) (K : WX Xx own cc nL hh R Q k z (pc + 1) (ls.set (i : Nat) (some (.int x))) st n h) (hi : (i : Nat) < nL := by exact Nat.le_of_ble_eq_true rfl) : WX Xx own cc nL hh R Q k z pc ls (.int x :: st) n h :=
  wa_st (i := (i : Nat)) (v := .int x) (fun u hu => ab_mset hu) (fun α hx hb hL kk => lv_istore_n hx hb d rfl hL.1 hi rfl (fun L' h' => kk L' (ab_LR.st1 (v := .int x) hL.2 hc h'))) K
theorem wa_istore {i : Nat} {x : Int32} (d : decode cc pc = .ok (.istore i, 2)) (hc : ab_c1 ls i = true) (K : WX Xx own cc nL hh R Q k z (pc + 2) (ls.set i (some (.int x))) st n h) (hi : i < nL := by exact Nat.le_of_ble_eq_true rfl) : WX Xx own cc nL hh R Q k z pc ls (.int x :: st) n h :=
  wa_st (i := i) (v := .int x) (fun u hu => ab_mset hu) (fun α hx hb hL kk => lv_istore hx hb d hL.1 hi rfl (fun L' h' => kk L' (ab_LR.st1 (v := .int x) hL.2 hc h'))) K
theorem wa_lstore_n {i : Fin 4} {x : Int64} (d : decode cc pc = .ok (.lstore_n i, 1)) (hc : ab_c1 ls (i : Nat) = true) (K : WX Xx own cc nL hh R Q k z (pc + 1) ((ls.set (i : Nat) (some (.long x))).set ((i : Nat) + 1) none) st n h) (hi : (i : Nat) + 1 < nL := by exact Nat.le_of_ble_eq_true rfl) : WX Xx own cc nL hh R Q k z pc ls (.long x :: st) n h :=
  wa_st (i := (i : Nat)) (v := .long x) (fun u hu => ab_mset2 hu) (fun α hx hb hL kk => lv_lstore_n hx hb d rfl hL.1 hi rfl (fun L' h' => kk L' (ab_LR.st2 (v := .long x) hL.2 hc h'))) K
theorem wa_lstore {i : Nat} {x : Int64} (d : decode cc pc = .ok (.lstore i, 2)) (hc : ab_c1 ls i = true) (K : WX Xx own cc nL hh R Q k z (pc + 2) ((ls.set i (some (.long x))).set (i + 1) none) st n h) (hi : i + 1 < nL := by exact Nat.le_of_ble_eq_true rfl) : WX Xx own cc nL hh R Q k z pc ls (.long x :: st) n h :=
  wa_st (i := i) (v := .long x) (fun u hu => ab_mset2 hu) (fun α hx hb hL kk => lv_lstore hx hb d hL.1 hi rfl (fun L' h' => kk L' (ab_LR.st2 (v := .long x) hL.2 hc h'))) K
theorem wa_fstore_n {i : Fin 4} {x : UInt32} (d : decode cc pc = .ok (.fstore_n i, 1)) (hc : ab_c1 ls (i : Nat) = true) (K : WX Xx own cc nL hh R Q k z (pc + 1) (ls.set (i : Nat) (some (.float x))) st n h) (hi : (i : Nat) < nL := by exact Nat.le_of_ble_eq_true rfl) : WX Xx own cc nL hh R Q k z pc ls (.float x :: st) n h :=
  wa_st (i := (i : Nat)) (v := .float x) (fun u hu => ab_mset hu) (fun α hx hb hL kk => lv_fstore_n hx hb d rfl hL.1 hi rfl (fun L' h' => kk L' (ab_LR.st1 (v := .float x) hL.2 hc h'))) K
theorem wa_fstore {i : Nat} {x : UInt32} (d : decode cc pc = .ok (.fstore i, 2)) (hc : ab_c1 ls i = true) (K : WX Xx own cc nL hh R Q k z (pc + 2) (ls.set i (some (.float x))) st n h) (hi : i < nL := by exact Nat.le_of_ble_eq_true rfl) : WX Xx own cc nL hh R Q k z pc ls (.float x :: st) n h :=
  wa_st (i := i) (v := .float x) (fun u hu => ab_mset hu) (fun α hx hb hL kk => lv_fstore hx hb d hL.1 hi rfl (fun L' h' => kk L' (ab_LR.st1 (v := .float x) hL.2 hc h'))) K
theorem wa_dstore_n {i : Fin 4} {x : UInt64} (d : decode cc pc = .ok (.dstore_n i, 1)) (hc : ab_c1 ls (i : Nat) = true) (K : WX Xx own cc nL hh R Q k z (pc + 1) ((ls.set (i : Nat) (some (.double x))).set ((i : Nat) + 1) none) st n h) (hi : (i : Nat) + 1 < nL := by exact Nat.le_of_ble_eq_true rfl) : WX Xx own cc nL hh R Q k z pc ls (.double x :: st) n h :=
  wa_st (i := (i : Nat)) (v := .double x) (fun u hu => ab_mset2 hu) (fun α hx hb hL kk => lv_dstore_n hx hb d rfl hL.1 hi rfl (fun L' h' => kk L' (ab_LR.st2 (v := .double x) hL.2 hc h'))) K
theorem wa_dstore {i : Nat} {x : UInt64} (d : decode cc pc = .ok (.dstore i, 2)) (hc : ab_c1 ls i = true) (K : WX Xx own cc nL hh R Q k z (pc + 2) ((ls.set i (some (.double x))).set (i + 1) none) st n h) (hi : i + 1 < nL := by exact Nat.le_of_ble_eq_true rfl) : WX Xx own cc nL hh R Q k z pc ls (.double x :: st) n h :=
  wa_st (i := i) (v := .double x) (fun u hu => ab_mset2 hu) (fun α hx hb hL kk => lv_dstore hx hb d hL.1 hi rfl (fun L' h' => kk L' (ab_LR.st2 (v := .double x) hL.2 hc h'))) K
theorem wa_astore_n {i : Fin 4} {x : Nat} (d : decode cc pc = .ok (.astore_n i, 1)) (hc : ab_c1 ls (i : Nat) = true) (K : WX Xx own cc nL hh R Q k z (pc + 1) (ls.set (i : Nat) (some (.ref x))) st n h) (hi : (i : Nat) < nL := by exact Nat.le_of_ble_eq_true rfl) : WX Xx own cc nL hh R Q k z pc ls (.ref x :: st) n h :=
  wa_st (i := (i : Nat)) (v := .ref x) (fun u hu => ab_mset hu) (fun α hx hb hL kk => lv_astore_n hx hb d rfl hL.1 hi rfl (fun L' h' => kk L' (ab_LR.st1 (v := .ref x) hL.2 hc h'))) K
theorem wa_astore {i : Nat} {x : Nat} (d : decode cc pc = .ok (.astore i, 2)) (hc : ab_c1 ls i = true) (K : WX Xx own cc nL hh R Q k z (pc + 2) (ls.set i (some (.ref x))) st n h) (hi : i < nL := by exact Nat.le_of_ble_eq_true rfl) : WX Xx own cc nL hh R Q k z pc ls (.ref x :: st) n h :=
  wa_st (i := i) (v := .ref x) (fun u hu => ab_mset hu) (fun α hx hb hL kk => lv_astore hx hb d hL.1 hi rfl (fun L' h' => kk L' (ab_LR.st1 (v := .ref x) hL.2 hc h'))) K
theorem wa_iadd {x y : Int32} (d : decode cc pc = .ok (.iadd, 1)) (K : WX Xx own cc nL hh R Q k z (pc + 1) ls (.int (x + y) :: st) n h) : WX Xx own cc nL hh R Q k z pc ls (.int y :: .int x :: st) n h :=
  wa_go (fun α hx hb _ => lv_iadd hx hb d) (fun h _ => ab_ws1 ab_wi (ab_wst (ab_wst h))) K
theorem wa_isub {x y : Int32} (d : decode cc pc = .ok (.isub, 1)) (K : WX Xx own cc nL hh R Q k z (pc + 1) ls (.int (x - y) :: st) n h) : WX Xx own cc nL hh R Q k z pc ls (.int y :: .int x :: st) n h :=
  wa_go (fun α hx hb _ => lv_isub hx hb d) (fun h _ => ab_ws1 ab_wi (ab_wst (ab_wst h))) K
theorem wa_imul {x y : Int32} (d : decode cc pc = .ok (.imul, 1)) (K : WX Xx own cc nL hh R Q k z (pc + 1) ls (.int (x * y) :: st) n h) : WX Xx own cc nL hh R Q k z pc ls (.int y :: .int x :: st) n h :=
  wa_go (fun α hx hb _ => lv_imul hx hb d) (fun h _ => ab_ws1 ab_wi (ab_wst (ab_wst h))) K
theorem wa_iand {x y : Int32} (d : decode cc pc = .ok (.iand, 1)) (K : WX Xx own cc nL hh R Q k z (pc + 1) ls (.int (x &&& y) :: st) n h) : WX Xx own cc nL hh R Q k z pc ls (.int y :: .int x :: st) n h :=
  wa_go (fun α hx hb _ => lv_iand hx hb d) (fun h _ => ab_ws1 ab_wi (ab_wst (ab_wst h))) K
theorem wa_ior {x y : Int32} (d : decode cc pc = .ok (.ior, 1)) (K : WX Xx own cc nL hh R Q k z (pc + 1) ls (.int (x ||| y) :: st) n h) : WX Xx own cc nL hh R Q k z pc ls (.int y :: .int x :: st) n h :=
  wa_go (fun α hx hb _ => lv_ior hx hb d) (fun h _ => ab_ws1 ab_wi (ab_wst (ab_wst h))) K
theorem wa_ixor {x y : Int32} (d : decode cc pc = .ok (.ixor, 1)) (K : WX Xx own cc nL hh R Q k z (pc + 1) ls (.int (x ^^^ y) :: st) n h) : WX Xx own cc nL hh R Q k z pc ls (.int y :: .int x :: st) n h :=
  wa_go (fun α hx hb _ => lv_ixor hx hb d) (fun h _ => ab_ws1 ab_wi (ab_wst (ab_wst h))) K
theorem wa_ishl {x y : Int32} (d : decode cc pc = .ok (.ishl, 1)) (K : WX Xx own cc nL hh R Q k z (pc + 1) ls (.int (x <<< (y &&& 31)) :: st) n h) : WX Xx own cc nL hh R Q k z pc ls (.int y :: .int x :: st) n h :=
  wa_go (fun α hx hb _ => lv_ishl hx hb d) (fun h _ => ab_ws1 ab_wi (ab_wst (ab_wst h))) K
theorem wa_ishr {x y : Int32} (d : decode cc pc = .ok (.ishr, 1)) (K : WX Xx own cc nL hh R Q k z (pc + 1) ls (.int (x >>> (y &&& 31)) :: st) n h) : WX Xx own cc nL hh R Q k z pc ls (.int y :: .int x :: st) n h :=
  wa_go (fun α hx hb _ => lv_ishr hx hb d) (fun h _ => ab_ws1 ab_wi (ab_wst (ab_wst h))) K
theorem wa_iushr {x y : Int32} (d : decode cc pc = .ok (.iushr, 1)) (K : WX Xx own cc nL hh R Q k z (pc + 1) ls (.int ((x.toUInt32 >>> (y.toUInt32 &&& Int32.toUInt32 31)).toInt32) :: st) n h) : WX Xx own cc nL hh R Q k z pc ls (.int y :: .int x :: st) n h :=
  wa_go (fun α hx hb _ => lv_iushr hx hb d rfl) (fun h _ => ab_ws1 ab_wi (ab_wst (ab_wst h))) K
theorem wa_idiv {x y : Int32} (d : decode cc pc = .ok (.idiv, 1)) (hne : ¬ y = 0) (K : WX Xx own cc nL hh R Q k z (pc + 1) ls (.int (x / y) :: st) n h) : WX Xx own cc nL hh R Q k z pc ls (.int y :: .int x :: st) n h :=
  wa_go (fun α hx hb _ => lv_idiv hx hb d hne) (fun h _ => ab_ws1 ab_wi (ab_wst (ab_wst h))) K
theorem wa_irem {x y : Int32} (d : decode cc pc = .ok (.irem, 1)) (hne : ¬ y = 0) (K : WX Xx own cc nL hh R Q k z (pc + 1) ls (.int (x - x / y * y) :: st) n h) : WX Xx own cc nL hh R Q k z pc ls (.int y :: .int x :: st) n h :=
  wa_go (fun α hx hb _ => lv_irem hx hb d hne) (fun h _ => ab_ws1 ab_wi (ab_wst (ab_wst h))) K
theorem wa_ineg {x : Int32} (d : decode cc pc = .ok (.ineg, 1)) (K : WX Xx own cc nL hh R Q k z (pc + 1) ls (.int (-x) :: st) n h) : WX Xx own cc nL hh R Q k z pc ls (.int x :: st) n h :=
  wa_go (fun α hx hb _ => lv_ineg hx hb d) (fun h _ => ab_ws1 ab_wi (ab_wst h)) K
theorem wa_ladd {x y : Int64} (d : decode cc pc = .ok (.ladd, 1)) (K : WX Xx own cc nL hh R Q k z (pc + 1) ls (.long (x + y) :: st) n h) : WX Xx own cc nL hh R Q k z pc ls (.long y :: .long x :: st) n h :=
  wa_go (fun α hx hb _ => lv_ladd hx hb d) (fun h _ => ab_ws1 ab_wl' (ab_wst (ab_wst h))) K
theorem wa_lsub {x y : Int64} (d : decode cc pc = .ok (.lsub, 1)) (K : WX Xx own cc nL hh R Q k z (pc + 1) ls (.long (x - y) :: st) n h) : WX Xx own cc nL hh R Q k z pc ls (.long y :: .long x :: st) n h :=
  wa_go (fun α hx hb _ => lv_lsub hx hb d) (fun h _ => ab_ws1 ab_wl' (ab_wst (ab_wst h))) K
theorem wa_lmul {x y : Int64} (d : decode cc pc = .ok (.lmul, 1)) (K : WX Xx own cc nL hh R Q k z (pc + 1) ls (.long (x * y) :: st) n h) : WX Xx own cc nL hh R Q k z pc ls (.long y :: .long x :: st) n h :=
  wa_go (fun α hx hb _ => lv_lmul hx hb d) (fun h _ => ab_ws1 ab_wl' (ab_wst (ab_wst h))) K
theorem wa_i2l {x : Int32} (d : decode cc pc = .ok (.i2l, 1)) (K : WX Xx own cc nL hh R Q k z (pc + 1) ls (.long x.toInt64 :: st) n h) : WX Xx own cc nL hh R Q k z pc ls (.int x :: st) n h :=
  wa_go (fun α hx hb _ => lv_i2l hx hb d rfl) (fun h _ => ab_ws1 ab_wl' (ab_wst h)) K
theorem wa_l2i {x : Int64} (d : decode cc pc = .ok (.l2i, 1)) (K : WX Xx own cc nL hh R Q k z (pc + 1) ls (.int x.toInt32 :: st) n h) : WX Xx own cc nL hh R Q k z pc ls (.long x :: st) n h :=
  wa_go (fun α hx hb _ => lv_l2i hx hb d rfl) (fun h _ => ab_ws1 ab_wi (ab_wst h)) K
theorem wa_i2b {x : Int32} (d : decode cc pc = .ok (.i2b, 1)) (K : WX Xx own cc nL hh R Q k z (pc + 1) ls (.int x.toInt8.toInt32 :: st) n h) : WX Xx own cc nL hh R Q k z pc ls (.int x :: st) n h :=
  wa_go (fun α hx hb _ => lv_i2b hx hb d rfl) (fun h _ => ab_ws1 ab_wi (ab_wst h)) K
theorem wa_i2c {x : Int32} (d : decode cc pc = .ok (.i2c, 1)) (K : WX Xx own cc nL hh R Q k z (pc + 1) ls (.int (x.toUInt32 % 65536).toInt32 :: st) n h) : WX Xx own cc nL hh R Q k z pc ls (.int x :: st) n h :=
  wa_go (fun α hx hb _ => lv_i2c hx hb d rfl) (fun h _ => ab_ws1 ab_wi (ab_wst h)) K
theorem wa_i2f {x : Int32} (d : decode cc pc = .ok (.i2f, 1)) (K : WX Xx own cc nL hh R Q k z (pc + 1) ls (.float (FP.i2f x) :: st) n h) : WX Xx own cc nL hh R Q k z pc ls (.int x :: st) n h :=
  wa_go (fun α hx hb _ => lv_i2f hx hb d) (fun h _ => ab_ws1 ab_wf (ab_wst h)) K
theorem wa_i2d {x : Int32} (d : decode cc pc = .ok (.i2d, 1)) (K : WX Xx own cc nL hh R Q k z (pc + 1) ls (.double (FP.i2d x) :: st) n h) : WX Xx own cc nL hh R Q k z pc ls (.int x :: st) n h :=
  wa_go (fun α hx hb _ => lv_i2d hx hb d) (fun h _ => ab_ws1 ab_wd (ab_wst h)) K
theorem wa_f2d {x : UInt32} (d : decode cc pc = .ok (.f2d, 1)) (hne : vf_n64 (FP.f2d x)) (K : WX Xx own cc nL hh R Q k z (pc + 1) ls (.double (FP.f2d x) :: st) n h) : WX Xx own cc nL hh R Q k z pc ls (.float x :: st) n h :=
  wa_go (fun α hx hb _ => lv_f2d hx hb d hne) (fun h _ => ab_ws1 ab_wd (ab_wst h)) K
theorem wa_fmul {x y : UInt32} (d : decode cc pc = .ok (.fmul, 1)) (hne : vf_n32 (FP.fmul x y)) (K : WX Xx own cc nL hh R Q k z (pc + 1) ls (.float (FP.fmul x y) :: st) n h) : WX Xx own cc nL hh R Q k z pc ls (.float y :: .float x :: st) n h :=
  wa_go (fun α hx hb _ => lv_fmul hx hb d hne) (fun h _ => ab_ws1 ab_wf (ab_wst (ab_wst h))) K
theorem wa_fdiv {x y : UInt32} (d : decode cc pc = .ok (.fdiv, 1)) (hne : vf_n32 (FP.fdiv x y)) (K : WX Xx own cc nL hh R Q k z (pc + 1) ls (.float (FP.fdiv x y) :: st) n h) : WX Xx own cc nL hh R Q k z pc ls (.float y :: .float x :: st) n h :=
  wa_go (fun α hx hb _ => lv_fdiv hx hb d hne) (fun h _ => ab_ws1 ab_wf (ab_wst (ab_wst h))) K
theorem wa_dadd {x y : UInt64} (d : decode cc pc = .ok (.dadd, 1)) (hne : vf_n64 (FP.dadd x y)) (K : WX Xx own cc nL hh R Q k z (pc + 1) ls (.double (FP.dadd x y) :: st) n h) : WX Xx own cc nL hh R Q k z pc ls (.double y :: .double x :: st) n h :=
  wa_go (fun α hx hb _ => lv_dadd hx hb d hne) (fun h _ => ab_ws1 ab_wd (ab_wst (ab_wst h))) K
theorem wa_ddiv {x y : UInt64} (d : decode cc pc = .ok (.ddiv, 1)) (hne : vf_n64 (FP.ddiv x y)) (K : WX Xx own cc nL hh R Q k z (pc + 1) ls (.double (FP.ddiv x y) :: st) n h) : WX Xx own cc nL hh R Q k z pc ls (.double y :: .double x :: st) n h :=
  wa_go (fun α hx hb _ => lv_ddiv hx hb d hne) (fun h _ => ab_ws1 ab_wd (ab_wst (ab_wst h))) K
theorem wa_fcmp {x y : UInt32} {op : CmpOp} (d : decode cc pc = .ok (.fcmp op, 1)) (K : WX Xx own cc nL hh R Q k z (pc + 1) ls (.int (Op.cmpValue (FP.fcmp x y) op) :: st) n h) : WX Xx own cc nL hh R Q k z pc ls (.float y :: .float x :: st) n h :=
  wa_go (fun α hx hb _ => lv_fcmp hx hb d) (fun h _ => ab_ws1 ab_wi (ab_wst (ab_wst h))) K
theorem wa_dcmp {x y : UInt64} {op : CmpOp} (d : decode cc pc = .ok (.dcmp op, 1)) (K : WX Xx own cc nL hh R Q k z (pc + 1) ls (.int (Op.cmpValue (FP.dcmp x y) op) :: st) n h) : WX Xx own cc nL hh R Q k z pc ls (.double y :: .double x :: st) n h :=
  wa_go (fun α hx hb _ => lv_dcmp hx hb d) (fun h _ => ab_ws1 ab_wi (ab_wst (ab_wst h))) K
theorem wa_iconst {i : Int} {x : Int32} (d : decode cc pc = .ok (.iconst i, 1)) (hv : Int32.ofInt i = x) (K : WX Xx own cc nL hh R Q k z (pc + 1) ls (.int x :: st) n h) : WX Xx own cc nL hh R Q k z pc ls (st) n h :=
  wa_go (fun α hx hb _ => lv_iconst hx hb d hv) (fun h _ => ab_ws1 ab_wi h) K
theorem wa_bipush {i : Int} {x : Int32} (d : decode cc pc = .ok (.bipush i, 2)) (hv : (Int8.ofInt i).toInt32 = x) (K : WX Xx own cc nL hh R Q k z (pc + 2) ls (.int x :: st) n h) : WX Xx own cc nL hh R Q k z pc ls (st) n h :=
  wa_go (fun α hx hb _ => lv_bipush hx hb d hv) (fun h _ => ab_ws1 ab_wi h) K
theorem wa_sipush {i : Int} {x : Int32} (d : decode cc pc = .ok (.sipush i, 3)) (hv : (Int16.ofInt i).toInt32 = x) (K : WX Xx own cc nL hh R Q k z (pc + 3) ls (.int x :: st) n h) : WX Xx own cc nL hh R Q k z pc ls (st) n h :=
  wa_go (fun α hx hb _ => lv_sipush hx hb d hv) (fun h _ => ab_ws1 ab_wi h) K
theorem wa_lconst {i : Fin 2} {x : Int64} (d : decode cc pc = .ok (.lconst i, 1)) (hv : Int64.ofNat (i : Nat) = x) (K : WX Xx own cc nL hh R Q k z (pc + 1) ls (.long x :: st) n h) : WX Xx own cc nL hh R Q k z pc ls (st) n h :=
  wa_go (fun α hx hb _ => lv_lconst hx hb d hv) (fun h _ => ab_ws1 ab_wl' h) K
theorem wa_fconst0  (d : decode cc pc = .ok (.fconst 0, 1)) (K : WX Xx own cc nL hh R Q k z (pc + 1) ls (.float FP.fconst0 :: st) n h) : WX Xx own cc nL hh R Q k z pc ls (st) n h :=
  wa_go (fun α hx hb _ => lv_fconst0 hx hb d) (fun h _ => ab_ws1 ab_wf h) K
theorem wa_dconst0  (d : decode cc pc = .ok (.dconst 0, 1)) (K : WX Xx own cc nL hh R Q k z (pc + 1) ls (.double FP.dconst0 :: st) n h) : WX Xx own cc nL hh R Q k z pc ls (st) n h :=
  wa_go (fun α hx hb _ => lv_dconst0 hx hb d) (fun h _ => ab_ws1 ab_wd h) K
theorem wa_null  (d : decode cc pc = .ok (.aconst_null, 1)) (K : WX Xx own cc nL hh R Q k z (pc + 1) ls (.null :: st) n h) : WX Xx own cc nL hh R Q k z pc ls (st) n h :=
  wa_go (fun α hx hb _ => lv_null hx hb d) (fun h _ => ab_ws1 ab_wn h) K
theorem wa_pop {v : Value} (d : decode cc pc = .ok (.pop, 1)) (hc : v.category = 1) (K : WX Xx own cc nL hh R Q k z (pc + 1) ls (st) n h) : WX Xx own cc nL hh R Q k z pc ls (v :: st) n h :=
  wa_go (fun α hx hb _ => lv_pop hx hb d ((ab_cat α v).trans hc)) (fun h _ => (ab_wst h)) K
theorem wa_dup {v : Value} (d : decode cc pc = .ok (.dup, 1)) (hc : v.category = 1) (K : WX Xx own cc nL hh R Q k z (pc + 1) ls (v :: v :: st) n h) : WX Xx own cc nL hh R Q k z pc ls (v :: st) n h :=
  wa_go (fun α hx hb _ => lv_dup hx hb d ((ab_cat α v).trans hc)) (fun h _ => ab_ws1 (h _ List.mem_cons_self) h) K
theorem wa_dup2 {v w : Value} (d : decode cc pc = .ok (.dup2, 1)) (hc : v.category = 1) (hc2 : w.category = 1) (K : WX Xx own cc nL hh R Q k z (pc + 1) ls (v :: w :: v :: w :: st) n h) : WX Xx own cc nL hh R Q k z pc ls (v :: w :: st) n h :=
  wa_go (fun α hx hb _ => lv_dup2_11 hx hb d ((ab_cat α v).trans hc) ((ab_cat α w).trans hc2)) (fun h _ => ab_ws1 (h _ List.mem_cons_self) (ab_ws1 (h _ (List.mem_cons_of_mem _ List.mem_cons_self)) h)) K
theorem wa_dup_x1 {v w : Value} (d : decode cc pc = .ok (.dup_x1, 1)) (hc : v.category = 1) (hc2 : w.category = 1) (K : WX Xx own cc nL hh R Q k z (pc + 1) ls (v :: w :: v :: st) n h) : WX Xx own cc nL hh R Q k z pc ls (v :: w :: st) n h :=
  wa_go (fun α hx hb _ => lv_dup_x1 hx hb d ((ab_cat α v).trans hc) ((ab_cat α w).trans hc2)) (fun h _ => ab_ws1 (h _ List.mem_cons_self) (ab_ws1 (h _ (List.mem_cons_of_mem _ List.mem_cons_self)) (ab_ws1 (h _ List.mem_cons_self) (ab_wst (ab_wst h))))) K
theorem wa_lcmp {x y : Int64} (d : decode cc pc = .ok (.lcmp, 1)) (K : WX Xx own cc nL hh R Q k z (pc + 1) ls (.int (lg_cmp x y) :: st) n h) : WX Xx own cc nL hh R Q k z pc ls (.long y :: .long x :: st) n h :=
  wa_go (fun α hx hb _ => W.lcmp hx hb d) (fun h _ => ab_ws1 ab_wi (ab_wst (ab_wst h))) K
theorem wa_goto {off : Int} (tgt : Nat) (d : decode cc pc = .ok (.goto off, 3)) (ht : (pc : Int) + off = (tgt : Int)) (K : WX Xx own cc nL hh R Q k z tgt ls st n h) : WX Xx own cc nL hh R Q k z pc ls st n h :=
  wa_go (fun α hx hb _ => lv_goto hx hb d ht) (fun h _ => h) K
/-- a branch -/
theorem wa_br {P : Prop} {tgt nx : Nat} {st' : List Value}
    (f : ∀ {p : Program} {l : Launch} {e : Env} {s : State} {m : MethodId} {args : Array Value} {below : List Frame} {meth : Method} {c : Code} {H : Heap} {locs : List Loc} {Fin : State → Prop} {L : Array Slot} (α : Nat → Nat), p.tables.exec = Jvm.exec → c.code = cc →
      (P → W p l e R s m args below meth c H locs k z Fin (F0 m tgt L (st'.map (ab_cv α)))) → (¬ P → W p l e R s m args below meth c H locs k z Fin (F0 m nx L (st'.map (ab_cv α)))) → W p l e R s m args below meth c H locs k z Fin (F0 m pc L (st.map (ab_cv α))))
    (hw : (∀ v ∈ st, ab_wv n v) → ∀ v ∈ st', ab_wv n v)
    (K : P → WX Xx own cc nL hh R Q k z tgt ls st' n h) (K' : ¬ P → WX Xx own cc nL hh R Q k z nx ls st' n h) : WX Xx own cc nL hh R Q k z pc ls st n h := by
  intro p l e s m args below meth c base D T C α H L locs Fin hC hW hL hs hl hS hF hT
  exact f α C.1 C.2.1 (fun q => K q p l e s m args below meth c base D T C α H L locs Fin hC hW hL (hw hs) hl hS hF hT) (fun q => K' q p l e s m args below meth c base D T C α H L locs Fin hC hW hL (hw hs) hl hS hF hT)
theorem wa_if_eq {x : Int32} {off : Int} (tgt : Nat) (d : decode cc pc = .ok (.ifCond .eq off, 3)) (ht : (pc : Int) + off = (tgt : Int)) (K : x = 0 → WX Xx own cc nL hh R Q k z tgt ls st n h) (K' : ¬ x = 0 → WX Xx own cc nL hh R Q k z (pc + 3) ls st n h) : WX Xx own cc nL hh R Q k z pc ls (.int x :: st) n h :=
  wa_br (fun α hx hb a b => lv_if_eq hx hb d ht a b) (fun h => ab_wst h) K K'
theorem wa_if_ne {x : Int32} {off : Int} (tgt : Nat) (d : decode cc pc = .ok (.ifCond .ne off, 3)) (ht : (pc : Int) + off = (tgt : Int)) (K : ¬ x = 0 → WX Xx own cc nL hh R Q k z tgt ls st n h) (K' : x = 0 → WX Xx own cc nL hh R Q k z (pc + 3) ls st n h) : WX Xx own cc nL hh R Q k z pc ls (.int x :: st) n h :=
  wa_br (P := x = 0) (tgt := pc + 3) (nx := tgt) (fun α hx hb a b => lv_if_ne hx hb d ht b a) (fun h => ab_wst h) K' K
theorem wa_if_lt {x : Int32} {off : Int} (tgt : Nat) (d : decode cc pc = .ok (.ifCond .lt off, 3)) (ht : (pc : Int) + off = (tgt : Int)) (K : x < 0 → WX Xx own cc nL hh R Q k z tgt ls st n h) (K' : ¬ x < 0 → WX Xx own cc nL hh R Q k z (pc + 3) ls st n h) : WX Xx own cc nL hh R Q k z pc ls (.int x :: st) n h :=
  wa_br (fun α hx hb a b => lv_if_lt hx hb d ht a b) (fun h => ab_wst h) K K'
theorem wa_if_ge {x : Int32} {off : Int} (tgt : Nat) (d : decode cc pc = .ok (.ifCond .ge off, 3)) (ht : (pc : Int) + off = (tgt : Int)) (K : 0 ≤ x → WX Xx own cc nL hh R Q k z tgt ls st n h) (K' : ¬ 0 ≤ x → WX Xx own cc nL hh R Q k z (pc + 3) ls st n h) : WX Xx own cc nL hh R Q k z pc ls (.int x :: st) n h :=
  wa_br (fun α hx hb a b => lv_if_ge hx hb d ht a b) (fun h => ab_wst h) K K'
theorem wa_if_gt {x : Int32} {off : Int} (tgt : Nat) (d : decode cc pc = .ok (.ifCond .gt off, 3)) (ht : (pc : Int) + off = (tgt : Int)) (K : 0 < x → WX Xx own cc nL hh R Q k z tgt ls st n h) (K' : ¬ 0 < x → WX Xx own cc nL hh R Q k z (pc + 3) ls st n h) : WX Xx own cc nL hh R Q k z pc ls (.int x :: st) n h :=
  wa_br (fun α hx hb a b => lv_if_gt hx hb d ht a b) (fun h => ab_wst h) K K'
theorem wa_if_le {x : Int32} {off : Int} (tgt : Nat) (d : decode cc pc = .ok (.ifCond .le off, 3)) (ht : (pc : Int) + off = (tgt : Int)) (K : x ≤ 0 → WX Xx own cc nL hh R Q k z tgt ls st n h) (K' : ¬ x ≤ 0 → WX Xx own cc nL hh R Q k z (pc + 3) ls st n h) : WX Xx own cc nL hh R Q k z pc ls (.int x :: st) n h :=
  wa_br (fun α hx hb a b => lv_if_le hx hb d ht a b) (fun h => ab_wst h) K K'
theorem wa_icmp_eq {x y : Int32} {off : Int} (tgt : Nat) (d : decode cc pc = .ok (.if_icmp .eq off, 3)) (ht : (pc : Int) + off = (tgt : Int)) (K : x = y → WX Xx own cc nL hh R Q k z tgt ls st n h) (K' : ¬ x = y → WX Xx own cc nL hh R Q k z (pc + 3) ls st n h) : WX Xx own cc nL hh R Q k z pc ls (.int y :: .int x :: st) n h :=
  wa_br (fun α hx hb a b => lv_icmp_eq hx hb d ht a b) (fun h => ab_wst (ab_wst h)) K K'
theorem wa_icmp_ne {x y : Int32} {off : Int} (tgt : Nat) (d : decode cc pc = .ok (.if_icmp .ne off, 3)) (ht : (pc : Int) + off = (tgt : Int)) (K : ¬ x = y → WX Xx own cc nL hh R Q k z tgt ls st n h) (K' : x = y → WX Xx own cc nL hh R Q k z (pc + 3) ls st n h) : WX Xx own cc nL hh R Q k z pc ls (.int y :: .int x :: st) n h :=
  wa_br (P := x = y) (tgt := pc + 3) (nx := tgt) (fun α hx hb a b => lv_icmp_ne hx hb d ht b a) (fun h => ab_wst (ab_wst h)) K' K
theorem wa_icmp_lt {x y : Int32} {off : Int} (tgt : Nat) (d : decode cc pc = .ok (.if_icmp .lt off, 3)) (ht : (pc : Int) + off = (tgt : Int)) (K : x < y → WX Xx own cc nL hh R Q k z tgt ls st n h) (K' : ¬ x < y → WX Xx own cc nL hh R Q k z (pc + 3) ls st n h) : WX Xx own cc nL hh R Q k z pc ls (.int y :: .int x :: st) n h :=
  wa_br (fun α hx hb a b => lv_icmp_lt hx hb d ht a b) (fun h => ab_wst (ab_wst h)) K K'
theorem wa_icmp_ge {x y : Int32} {off : Int} (tgt : Nat) (d : decode cc pc = .ok (.if_icmp .ge off, 3)) (ht : (pc : Int) + off = (tgt : Int)) (K : y ≤ x → WX Xx own cc nL hh R Q k z tgt ls st n h) (K' : ¬ y ≤ x → WX Xx own cc nL hh R Q k z (pc + 3) ls st n h) : WX Xx own cc nL hh R Q k z pc ls (.int y :: .int x :: st) n h :=
  wa_br (fun α hx hb a b => lv_icmp_ge hx hb d ht a b) (fun h => ab_wst (ab_wst h)) K K'
theorem wa_icmp_gt {x y : Int32} {off : Int} (tgt : Nat) (d : decode cc pc = .ok (.if_icmp .gt off, 3)) (ht : (pc : Int) + off = (tgt : Int)) (K : y < x → WX Xx own cc nL hh R Q k z tgt ls st n h) (K' : ¬ y < x → WX Xx own cc nL hh R Q k z (pc + 3) ls st n h) : WX Xx own cc nL hh R Q k z pc ls (.int y :: .int x :: st) n h :=
  wa_br (fun α hx hb a b => lv_icmp_gt hx hb d ht a b) (fun h => ab_wst (ab_wst h)) K K'
theorem wa_icmp_le {x y : Int32} {off : Int} (tgt : Nat) (d : decode cc pc = .ok (.if_icmp .le off, 3)) (ht : (pc : Int) + off = (tgt : Int)) (K : x ≤ y → WX Xx own cc nL hh R Q k z tgt ls st n h) (K' : ¬ x ≤ y → WX Xx own cc nL hh R Q k z (pc + 3) ls st n h) : WX Xx own cc nL hh R Q k z pc ls (.int y :: .int x :: st) n h :=
  wa_br (fun α hx hb a b => lv_icmp_le hx hb d ht a b) (fun h => ab_wst (ab_wst h)) K K'
theorem wa_tableIn {dflt lo hi : Int} {offs : Array Int} {len : Nat} {x : Int32} {off : Int} (tgt : Nat) (d : decode cc pc = .ok (.tableswitch dflt lo hi offs, len)) (h1 : ¬ x.toInt < lo) (h2 : ¬ hi < x.toInt) (ho : offs[(x.toInt - lo).toNat]? = some off) (ht : (pc : Int) + off = (tgt : Int)) (K : WX Xx own cc nL hh R Q k z tgt ls st n h) : WX Xx own cc nL hh R Q k z pc ls (.int x :: st) n h :=
  wa_go (fun α hx hb _ => lv_tableIn hx hb d h1 h2 ho ht) (fun h _ => ab_wst h) K
theorem wa_tableOut {dflt lo hi : Int} {offs : Array Int} {len : Nat} {x : Int32} (tgt : Nat) (d : decode cc pc = .ok (.tableswitch dflt lo hi offs, len)) (h1 : x.toInt < lo ∨ hi < x.toInt) (ht : (pc : Int) + dflt = (tgt : Int)) (K : WX Xx own cc nL hh R Q k z tgt ls st n h) : WX Xx own cc nL hh R Q k z pc ls (.int x :: st) n h :=
  wa_go (fun α hx hb _ => lv_tableOut hx hb d h1 ht) (fun h _ => ab_wst h) K
theorem wa_lookup {dflt : Int} {ps : Array (Int × Int)} {len : Nat} {x : Int32} {off : Int} (tgt : Nat) (d : decode cc pc = .ok (.lookupswitch dflt ps, len)) (hp : (ps.toList.zip (ps.toList.drop 1)).all (fun (a, next) => a.1 < next.1) = true) (ho : Op.lookupswitch.offset ps.toList dflt x.toInt = off) (ht : (pc : Int) + off = (tgt : Int)) (K : WX Xx own cc nL hh R Q k z tgt ls st n h) : WX Xx own cc nL hh R Q k z pc ls (.int x :: st) n h :=
  wa_go (fun α hx hb _ => lv_lookup hx hb d hp ho ht) (fun h _ => ab_wst h) K
theorem wa_ifnonnull {x : Nat} {off : Int} (tgt : Nat) (d : decode cc pc = .ok (.ifnonnull off, 3)) (ht : (pc : Int) + off = (tgt : Int)) (K : WX Xx own cc nL hh R Q k z tgt ls st n h) : WX Xx own cc nL hh R Q k z pc ls (.ref x :: st) n h :=
  wa_go (fun α hx hb _ => lv_ifnonnull hx hb d ht) (fun h _ => ab_wst h) K
theorem wa_ifnonnullN {off : Int} (d : decode cc pc = .ok (.ifnonnull off, 3)) (K : WX Xx own cc nL hh R Q k z (pc + 3) ls st n h) : WX Xx own cc nL hh R Q k z pc ls (.null :: st) n h :=
  wa_go (fun α hx hb _ => lv_ifnonnullN hx hb d) (fun h _ => ab_wst h) K
theorem wa_iinc {i : Nat} {j : Int} {x y : Int32} (d : decode cc pc = .ok (.iinc i j, 3)) (hl : ls[i]? = some (some (.int x))) (hy : Int32.ofInt j = y) (hc : ab_c1 ls i = true) (K : WX Xx own cc nL hh R Q k z (pc + 3) (ls.set i (some (.int (x + y)))) st n h) (hi : i < nL := by exact Nat.le_of_ble_eq_true rfl) : WX Xx own cc nL hh R Q k z pc ls st n h := by
  intro p l e s m args below meth c base D T C α H L locs Fin hC hW hL hs hll hS hF hT
  obtain ⟨q, hq⟩ := List.getElem?_of_mem (ab_ll_mem (α := α).mpr ⟨_, hl, rfl⟩)
  refine lv_iinc (v := x + y) C.1 C.2.1 d hL.1 hq (by rw [hy]) hi rfl (fun L' h' => K p l e s m args below meth c base D T C α H L' locs Fin hC hW (ab_LR.st1 (v := .int (x + y)) hL.2 hc h') hs (fun u hu => ?_) hS hF hT)
  rcases ab_mset hu with rfl | r
  · trivial
  · exact hll u r
end WA1
