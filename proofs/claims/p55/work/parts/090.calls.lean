/-! THE ABSTRACT JUDGEMENT: what a caller does with a method. -/
/-- E was thrown at pc -/
def WTX (Xx : ab_X) (own : String) (cc : ByteArray) (nL : Nat) (hh : List (Nat × Nat × Nat × Nat)) (R : Room) (Q : ab_Q) (k z pc : Nat) (ls : List (Option Value)) (E : String) (n : Nat) (h : ab_H) : Prop :=
  ∀ (p : Program) (l : Launch) (e : Env) (s : State) (m : MethodId) (args : Array Value) (below : List Frame) (meth : Method) (c : Code) (base : Nat) (D : va_G) (T : Nat → ClassId),
    ab_Ctx Xx own cc nL hh R p l s m args meth c base D T →
  ∀ (α : Nat → Nat) (H : Heap) (L : Array Slot) (locs : List Loc) (Fin : State → Prop) (st : List Value) (q : Addr) (ce : Cell), ab_Cn base D T α s s.heap → ab_Wd base D T α n h H → ab_LR α nL ls L → (∀ v, some v ∈ ls → ab_wv n v) → va_S (ab_A base) s.heap H locs →
    ab_Fr p l e R s m args below meth c base D T cc nL Fin Q n α → ab_Ft p l e R s m args below meth c base D T Fin Q n α →
    H[q]? = some ce → ce.vm = .none → s.vm.findClass E = some ce.cls → vx_W p l e R s m args below meth c H locs k z Fin (F0 m pc L st) q
abbrev WT (own : String) (cc : ByteArray) (nL : Nat) (hh : List (Nat × Nat × Nat × Nat)) (R : Room) (Q : ab_Q) (k z pc : Nat) (ls : List (Option Value)) (E : String) (n : Nat) (h : ab_H) : Prop := WTX ab_X0 own cc nL hh R Q k z pc ls E n h
section CL
variable {Xx : ab_X} {own : String} {cc : ByteArray} {nL : Nat} {hh : List (Nat × Nat × Nat × Nat)} {R : Room} {Q : ab_Q} {k z pc : Nat} {ls : List (Option Value)} {st : List Value} {n : Nat} {h : ab_H}
theorem wt_out {E : String} (hQ : Q (.inr E) k z n h) (hout : ∀ x ∈ tableOf hh, covers x pc = false) : WTX Xx own cc nL hh R Q k z pc ls E n h := by
  intro p l e s m args below meth c base D T C0 α H L locs Fin st q ce hC hW hL hl hS hF hT hce hv hcl
  exact hT.1 E n h α H L locs k z pc st q ce hQ (Nat.le_refl _) ab_Ag.rf hW hS hce hv hcl (by rw [C0.2.2.2.2.2.2.2.1]; exact hout)
theorem ab_mnone {ls : List (Option Value)} {i : Nat} {u : Value} (h : some u ∈ ls.set i none) : some u ∈ ls := by
  rcases List.mem_or_eq_of_mem_set h with q | q
  · exact q
  · cases q
theorem ab_LR.stN {α : Nat → Nat} {nL i : Nat} {ls : List (Option Value)} {w : Value} (hl : ls.length = nL) (hc : ab_c1 ls i = true) {L' : Array Slot}
    (h : lv_has L' nL ((i, w) :: (ab_ll α ls).filter (fun q => !(q.1 == i) && !(q.1 + 1 == i && q.2.category == 2)))) : ab_LR α nL (ls.set i none) L' := by
  refine ⟨⟨h.1, h.2.1, fun q hq => ?_⟩, by simp [hl]⟩
  obtain ⟨j, w⟩ := q
  obtain ⟨u, hu, rfl⟩ := ab_ll_mem.mp hq
  refine h.2.2 (j, ab_cv α u) ?_
  rw [List.getElem?_set] at hu
  by_cases hij : i = j
  · subst hij
    rw [if_pos rfl] at hu
    split at hu <;> cases hu
  · rw [if_neg hij] at hu
    refine List.mem_cons_of_mem _ (List.mem_filter.mpr ⟨ab_ll_mem.mpr ⟨u, hu, rfl⟩, ?_⟩)
    by_cases hj1 : j + 1 = i
    · subst hj1
      simp only [ab_c1, hu] at hc
      have hc1 : u.category = 1 := by simpa using hc
      simp [ab_cat, hc1]
    · have : ¬ j = i := fun z => hij z.symm
      simp [this, hj1]
/-- the handler takes it and stores it away -/
theorem wt_catch {E : String} {i : Nat} (pre : List (Nat × Nat × Nat × Nat)) (x : Nat × Nat × Nat × Nat) (suf : List (Nat × Nat × Nat × Nat)) (hsplit : hh = pre ++ x :: suf)
    (hpass : ∀ y ∈ pre, covers ⟨y.1, y.2.1, y.2.2.1, y.2.2.2⟩ pc = false ∨ (y.2.2.2 ≠ 0 ∧ ∃ nm : String, Cond.classLink own y.2.2.2 nm ∈ ab_big ∧ (E, nm) ∈ ab_nN))
    (hx : covers ⟨x.1, x.2.1, x.2.2.1, x.2.2.2⟩ pc = true) (h0 : x.2.2.2 ≠ 0) (hlink : Cond.classLink own x.2.2.2 E ∈ ab_big) (hcast : (E, E) ∈ ab_nC)
    (d : decode cc x.2.2.1 = .ok (.astore i, 2)) (hc : ab_c1 ls i = true) (hi : i < nL) (K : WX Xx own cc nL hh R Q k z (x.2.2.1 + 2) (ls.set i none) [] n h) : WTX Xx own cc nL hh R Q k z pc ls E n h := by
  intro p l e s m args below meth c base D T C0 α H L locs Fin st q ce hC hW hL hl hS hF hT hce hv hcl
  refine vx_catch (own := own) (name := E) (E := E) (ce := ce) C0.2.2.2.1 (tableOf pre) ⟨x.1, x.2.1, x.2.2.1, x.2.2.2⟩ (tableOf suf) (by rw [C0.2.2.2.2.2.2.2.1, hsplit]; simp [tableOf]) ?_ hx h0 (C0.2.2.2.2.1 _ hlink) (va_Nw.use rfl (hC.2.2.2.2.2.2.2.2.1 _ hcast)) hce hv hcl ?_
  · intro y hy
    obtain ⟨y0, hy0, rfl⟩ := List.mem_map.mp hy
    rcases hpass y0 hy0 with q | ⟨q, nm, q1, q2⟩
    · exact Or.inl q
    · exact Or.inr ⟨q, nm, C0.2.2.2.2.1 _ q1, hC.2.2.2.2.2.2.2.2.2.2.1 _ q2⟩
  · refine lv_astore (x := q) C0.1 C0.2.1 d hL.1 hi rfl (fun L' h' => ?_)
    exact K p l e s m args below meth c base D T C0 α H L' locs Fin hC hW (ab_LR.stN hL.2 hc h') (fun v hv => absurd hv List.not_mem_nil) (fun u hu => hl u (ab_mnone hu)) hS hF hT
/-- the two ways on behind a call -/
theorem wa_back {mc ms : Nat} {st0 : List Value} {Q0 : ab_R → Nat → ab_H → Prop}
    (kR : ∀ ro n' h', Q0 (.inl ro) n' h' → n ≤ n' → WX Xx own cc nL hh R Q (k + mc) (z + ms) (pc + 3) ls (ro.toList ++ st) n' h') (kT : ∀ E n' h', Q0 (.inr E) n' h' → n ≤ n' → WTX Xx own cc nL hh R Q (k + mc) (z + ms) pc ls E n' h')
    {p : Program} {l : Launch} {e : Env} {s : State} {m : MethodId} {args : Array Value} {below : List Frame} {meth : Method} {c : Code} {base : Nat} {D : va_G} {T : Nat → ClassId} (C0 : ab_Ctx Xx own cc nL hh R p l s m args meth c base D T)
    {α : Nat → Nat} {H : Heap} {L : Array Slot} {locs : List Loc} {Fin : State → Prop} (hC : ab_Cn base D T α s s.heap) (hL : ab_LR α nL ls L) (hs : ∀ v ∈ st, ab_wv n v) (hl : ∀ v, some v ∈ ls → ab_wv n v) (hS : va_S (ab_A base) s.heap H locs)
    (hF : ab_Fr p l e R s m args below meth c base D T cc nL Fin Q n α) (hT : ab_Ft p l e R s m args below meth c base D T Fin Q n α) {av : Array Value}
    (hr : vx_Run p l e R s m args below meth c H locs k z mc ms (F0 m pc L st0) (st.map (ab_cv α)) (ab_Qc base D T α n Q0 av) (ab_XC base D T α n Q0) (ab_A base)) :
    W p l e R s m args below meth c H locs k z Fin (F0 m pc L st0) := by
  intro T0 hT0 X
  have hag : ∀ {n' : Nat} {α' : Nat → Nat}, ab_Ag n α α' → ∀ k, ab_CB ≤ k → α' k = α k := fun h k hk => h k (Or.inr hk)
  rcases hr T0 hT0 X with ⟨v, st₀, t, T', L2, h0, X', hL2, e1, e2, ⟨⟨ro, n', h', α', hv, hq, hn, hA, hW', hwv⟩, hz, hkp⟩, stp⟩ | ⟨q, st₀, t, T', L2, E, ce, h0, X', hL2, e1, e2, ⟨⟨n', h', α', hq, hn, hA, hW'⟩, hz, hkp⟩, hce, hcv, hcl, stp⟩
  · cases hv
    rw [h0] at hz hkp
    have hS' : va_S (ab_A base) s.heap T'.heap (locs ++ L2) := ⟨Nat.le_trans hS.1 (by rw [e1]; exact hz), fun q h1 h2 => by rw [e1, hkp q (Nat.lt_of_lt_of_le h1 hS.1) h2]; exact hS.2.1 q h1 h2, fun q hq => by
      rcases List.mem_append.mp hq with h | h
      · exact hS.2.2 q h
      · exact hL2 q h⟩
    rw [← e1] at hW'
    have K1 := kR ro n' h' hq hn p l e s m args below meth c base D T C0 α' T'.heap L (locs ++ L2) Fin (hC.ag (hag (n' := n) hA)) hW' (hL.ag hA hl) (fun v hv => ?_) (fun v hv => (hl v hv).mono hn) hS' (hF.mv hn hA) (hT.mv hn hA)
    · rw [List.map_append, ab_map_ag hA hs] at K1
      have e9 : (ro.map (ab_cv α')).toList = ro.toList.map (ab_cv α') := by cases ro <;> rfl
      obtain ⟨t2, a1, b1⟩ := K1 T' rfl X'
      rw [← e9] at a1
      exact ⟨t2, stp t2 a1, b1⟩
    · rcases List.mem_append.mp hv with h | h
      · cases ro with
        | none => cases h
        | some r => rcases List.mem_cons.mp h with rfl | h
                    · exact hwv _ rfl
                    · cases h
      · exact (hs v h).mono hn
  · rw [h0] at hz hkp
    have hS' : va_S (ab_A base) s.heap T'.heap (locs ++ L2) := ⟨Nat.le_trans hS.1 (by rw [e1]; exact hz), fun q h1 h2 => by rw [e1, hkp q (Nat.lt_of_lt_of_le h1 hS.1) h2]; exact hS.2.1 q h1 h2, fun q hq => by
      rcases List.mem_append.mp hq with h | h
      · exact hS.2.2 q h
      · exact hL2 q h⟩
    rw [← e1] at hW' hce
    obtain ⟨t2, a1, b1⟩ := kT E n' h' hq hn p l e s m args below meth c base D T C0 α' T'.heap L (locs ++ L2) Fin (st.map (ab_cv α)) q ce (hC.ag (hag (n' := n) hA)) hW' (hL.ag hA hl) (fun v hv => (hl v hv).mono hn) hS' (hF.mv hn hA) (hT.mv hn hA) hce hcv hcl T' rfl X'
    exact ⟨t2, stp.trans a1, b1⟩
end CL
