/-! THE CLAIM OUT OF ONE WALK OF THE LAW'S BODY. Your part is whole_start (and what it stands on); all else here is the same for every law, but numbers. -/
def R_law : String := "ValveRoomLaw"
def lw_P (b : Addr) (xs : List Int32) (args : Array Value) (s : State) : Prop := args = #[.ref b] ∧ s.IntsAt b xs ∧ xs.length ≤ 260 ∧ (Jvm.Cond.and given_1 narrow_1).before args s = true
/-- what a walk over the start with the record d0 says of its end, said of the start itself -/
theorem lw_closed {s t : State} {o : Outcome} {d0 : Drawn} {L : List Loc} {k n : Nat} (hd0 : s.drawn.sameBut d0 lw_cs) (hv : ∃ v, o = .returned v) (hW : (s.setDrawn d0).WarmedH t.vm) (hs : (s.setDrawn d0).sameButNew ({ t with vm := s.vm } : State) L k n) : State.butDraws s t lw_cs (fun t1 => Framed s o t1 L k n) := by
  have h2 : t.drawn = d0 := congrArg State.drawn hs.1
  refine ⟨⟨hv, hW, State.sameButNew.setDrawn hs s.drawn⟩, ?_, by decide⟩
  rw [h2]
  exact hd0
def lw_Q (_ : Array Value) (s : State) (o : Outcome) (t : State) : Prop := o = .returned (some (.int 1)) ∧ State.butDraws s t lw_cs (fun t1 => Framed s o t1 [] 600086 7301442)
def lw_Z (below : List Frame) (a : Array Value) (s : State) : State → Prop := fun t => ∃ o, t.status = .running ∧ Ended t below o ∧ lw_Q a s o t
/-- the law's own end, with 1 on the stack, nothing written that was there before, its room as the claim has it; d0: the record of draws at this point (at the entry s.drawn: begin with 'refine W.base ?_' and 'have hd0 := Drawn.sameBut.refl s.drawn lw_cs') -/
theorem lw_ret {p : Program} {l : Launch} {e : Env} {s : State} {m : MethodId} {below : List Frame} {meth : Method} {c : Code} {b : Nat} {d0 : Drawn} (hd0 : s.drawn.sameBut d0 lw_cs) (hx : p.tables.exec = Jvm.exec) (hb : c.code = code) (hr : meth.sig.returnType = ret) (hlocks : meth.locks = false) {pc : Nat} {H : Heap} {ls : Array Slot} (hdg : decode code pc = .ok (.ireturn, 1)) : W p l e room_1 (s.setDrawn d0) m #[Value.ref b] below meth c H [] 600086 7301442 (lw_Z below #[Value.ref b] s) (F0 m pc ls [.int 1]) := by
  intro T hT X
  obtain ⟨fs, hret, hrun, hended, hW, hframe⟩ := X.leave (v := some (.int 1)) (hlocks := hlocks) (fun h => by rw [hr] at h; cases h)
  have hmeth' : T.vm.method? m = some meth := X.method'
  refine ⟨T.setFrames fs, ?_, .returned (some (.int 1)), hrun, hended, rfl, lw_closed hd0 ⟨_, rfl⟩ hW hframe⟩
  jvm_step X.here [X.here.top, hx, hb, hdg, hmeth', hr, ret, narrow_b1]
  (try refine ⟨rfl, ?_⟩); (try refine ⟨rfl, ?_⟩)
  first | (intro acts; rw [hret _ acts rfl rfl rfl]) | rw [hret _ _ rfl rfl rfl]
  exact Steps.refl _
/-- what holds at the law's entry: the machine, the code, the tables' words (any of lw_tbl by 'hts w (by decide +kernel)'), the script of L ints xs at the cell b, what the Statement gives of the start (any of its parts by flat_of_before) -/
def lw_At (p : Program) (s : State) (m : MethodId) (meth : Method) (c : Code) (b L : Nat) (xs : Nat → Int32) : Prop :=
  p.tables.exec = Jvm.exec ∧ c.code = code ∧ meth.sig.returnType = ret ∧ c.maxLocals = 14 ∧ s.vm.findClass R_law = some m.cls ∧ (∀ w ∈ lw_tbl, w.before #[Value.ref b] s = true) ∧ va_X b L xs s s.heap ∧ b < s.heap.size ∧ meth.locks = false ∧ (Jvm.Cond.and given_1 narrow_1).before #[Value.ref b] s = true
theorem law_walk {p : Program} {e : Env} {s : State} {m : MethodId} {below : List Frame} {meth : Method} {c : Code} (l : Launch) (hflags : l.flags = flags0) {b L : Nat} {xs : Nat → Int32} (hL : L ≤ 260) (C0 : lw_At p s m meth c b L xs) (hex : c.exceptionTable.toList = []) : W p l e room_1 s m #[Value.ref b] below meth c s.heap [] 0 0 (lw_Z below #[Value.ref b] s) (entryFrame m ([Value.ref b] : List Value).toArray 14) := by
  obtain ⟨hx, hb, hr, hml, hown, hts, hX, hbl, hlocks, hgv⟩ := C0
  obtain ⟨D, T, hK, hT⟩ := ab_K_of hts b
  obtain ⟨α, hC, hα⟩ := ab_Cn_of (flat_of_before _ hgv) hts (D := D) (T := T) hT
  have hst : l.stackTraces = false := by
    unfold Launch.stackTraces
    rw [hflags]
    decide +kernel
  have hCtx : ab_Ctx (ab_XS L xs) RL cL_law 14 [] room_1 p l s m #[Value.ref b] meth c s.heap.size D T :=
    ⟨hx, hb, hml, hown, st_big hts, hK, Nat.le_refl _, hex, hlocks, hst, fun z => absurd z (by decide), by show va_X (T 1000) L xs s s.heap; rw [hT]; exact hX, by show (show Nat from T 1000) < s.heap.size; rw [hT]; exact hbl⟩
  have hmap : ([Value.ref (ab_CB + 500000)] : List Value).map (ab_cv α) = [Value.ref b] := by
    show [Value.ref (α (ab_CB + 500000))] = _
    rw [hα]
  have he : entryFrame m ([Value.ref b] : List Value).toArray 14 = F0 m 0 ((lg_sl (([Value.ref (ab_CB + 500000)] : List Value).map (ab_cv α)) ++ List.replicate (14 - (lg_sl (([Value.ref (ab_CB + 500000)] : List Value).map (ab_cv α))).length) Slot.unset).toArray) [] := by rw [lg_entry_eq, hmap]
  rw [he]
  have hW0 : ab_Wd s.heap.size D T α 0 (Hp S0) s.heap := ⟨fun k q hk => by simp [ab_wl] at hk, ⟨fun i j p q hi => by simp [ab_wl] at hi, fun k q hk => by simp [ab_wl] at hk⟩, fun k hk => absurd hk (Nat.not_lt_zero _), by decide⟩
  have hl0 : ∀ v : Value, some v ∈ ab_en 14 [Value.ref (ab_CB + 500000)] → ab_wv 0 v := ab_en_w (fun v hv => by
    rcases List.mem_cons.mp hv with rfl | hv
    · exact Or.inr (Nat.le_add_right _ _)
    · cases hv)
  have hL0 := ab_en_LR (α := α) (maxL := 14) (as := [Value.ref (ab_CB + 500000)]) (by decide)
  have hB : LX L xs lawQ 0 0 0 (ab_en 14 [Value.ref (ab_CB + 500000)]) [] 0 (Hp S0) := law_begin flw hL
  refine hB p l e s m _ below meth c s.heap.size D T hCtx α s.heap _ [] _ hC hW0 hL0 (fun v hv => absurd hv List.not_mem_nil) hl0 va_S.rf ?_ ?_
  · intro ro n' h' α' H' L' locs' k' z' pc' ins hQ hn hag hWd hS hL' hwv hri hd
    obtain ⟨h1, h2, h3⟩ := hQ
    cases h1
    cases hri
    refine va_forget (fun q hq => hS.2.2 q hq) ?_
    refine W.widen h2 h3 ?_
    exact lw_ret (d0 := s.drawn) (Drawn.sameBut.refl s.drawn lw_cs) hx hb hr hlocks hd
  · constructor
    · intro E n' h' α' H' L' locs' k' z' pc' st' q ce hQ
      cases hQ.1
    · intro E n' h' α' H' L' locs' k' z' g hQ
      cases hQ.1
