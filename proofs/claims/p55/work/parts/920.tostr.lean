/-! StringBuilder: toString; a row of bytes cloned; an overriding method called. Written by program (wip/p55/gen/m920.py) but for the heads. -/
/-- an overriding method: what the reference names is another's code -/
def ab_lkO (own : String) (index : Nat) (C owner : String) (x y : MethodName) (cc2 : ByteArray) (maxL2 : Nat) (ret2 : Option FieldType) (k : Nat) : Prop := (∀ w ∈ [Cond.methodLink own index x, .sameMethod x.cls owner x.name x.desc, .instanceMethod ⟨owner, x.name, x.desc⟩, .selects C x y, .instanceMethod y, .initialized y.cls, .code y cc2 maxL2 ret2], w ∈ ab_big) ∧ ab_nmok y k ∧ (∃ (b0 : ByteArray) (m0 : Nat) (r0 : Option FieldType), Cond.code ⟨owner, x.name, x.desc⟩ b0 m0 r0 ∈ ab_big) ∧ owner ≠ "java/lang/invoke/MethodHandle" ∧ owner ≠ "java/lang/invoke/VarHandle" ∧ (parseMethodDescriptor x.desc).map (fun d => d.parameters.length) = some k
section OV
variable {Xx : ab_X} {own : String} {cc : ByteArray} {nL : Nat} {hh : List (Nat × Nat × Nat × Nat)} {R : Room} {Q : ab_Q} {k z pc : Nat} {ls : List (Option Value)} {st stk : List Value} {n : Nat} {h : ab_H}
variable {index : Nat} {y : MethodName} {cc2 : ByteArray} {maxL2 : Nat} {ret2 : Option FieldType} {d mc ms : Nat} {As : List Value} {Q0 : ab_R → Nat → ab_H → Prop}
theorem wa_callO0 {C owner : String} {x : MethodName} {b : Nat} (dd : decode cc pc = .ok (.invokevirtual index, 3)) (lk : ab_lkO own index C owner x y cc2 maxL2 ret2 As.length) (hA : AM y cc2 maxL2 ret2 [] d mc ms (.ref b :: As) n h Q0) (hno : ∀ E n' h', ¬ Q0 (.inr E) n' h') (hst : stk = As.reverse ++ .ref b :: st)
    (hrc : ∀ {p : Program} {l : Launch} {s : State} {m : MethodId} {args : Array Value} {meth : Method} {c : Code} {base : Nat} {D : va_G} {T : Nat → ClassId} {α : Nat → Nat} {H : Heap} {locs : List Loc}, ab_Ctx Xx own cc nL hh R p l s m args meth c base D T → ab_Cn base D T α s s.heap → ab_Wd base D T α n h H → va_S (ab_A base) s.heap H locs → ∃ cell : Cell, H[α b]? = some cell ∧ cell.vm.isStatics = false ∧ s.vm.findClass C = some cell.cls)
    (hlen : (ab_el (.ref b :: As)).length ≤ maxL2) (hR : ab_fit R d maxL2 mc ms k z) (hrest : (st.map fun v => v.category).sum ≤ 8)
    (kR : ∀ ro n' h', Q0 (.inl ro) n' h' → n ≤ n' → WX Xx own cc nL hh R Q (k + mc) (z + ms) (pc + 3) ls (ro.toList ++ st) n' h') : WX Xx own cc nL hh R Q k z pc ls stk n h := by
  subst hst
  intro p l e s m args below meth c base D T C0 α H L locs Fin hC hW hL hs hl hS hF hT
  obtain ⟨hwk, ⟨hy1, hy2, hy3, hy4⟩, ⟨b0, m0, r0, h0⟩, ho⟩ := lk
  have has : ∀ v ∈ Value.ref b :: As, ab_wv n v := fun v hv => hs v (by
    rcases List.mem_cons.mp hv with rfl | hv
    · exact List.mem_append_right _ List.mem_cons_self
    · exact List.mem_append_left _ (List.mem_reverse.mpr hv))
  have hs2 : ∀ v ∈ st, ab_wv n v := fun v hv => hs v (List.mem_append_right _ (List.mem_cons_of_mem _ hv))
  have hM := vx_toMet (hA.vx has hlen hy1 C0.2.2.2.2.2.2.2.2.2.1 base D T α) (ab_noX hno)
  have hG : GoodIn ab_big (va_wsO own index C owner x y (Cond.code y cc2 maxL2 ret2 :: ab_big)) := by
    have h9 := ab_gd hwk
    exact h9
  have cw := va_cwO (R := R) (args := args) (s := s) As.length C0.2.2.2.2.1 hG rfl (rm := ab_rm d mc ms) rfl rfl h0 ho ⟨by show d + 3 + 1 ≤ _; exact hR.1, by show 8 + (maxL2 + 11) + (40 * d + 70) ≤ _; exact hR.2.1⟩
  have hr := va_runU (locs := locs) (meth := meth) (below := below) (e := e) (rest := st.map (ab_cv α)) (As := As.map (ab_cv α)) (g := F0 m pc L ((As.reverse ++ .ref b :: st).map (ab_cv α))) ⟨C0.1, C0.2.1, C0.2.2.1, C0.2.2.2.1, C0.2.2.2.2.1⟩ hM cw ⟨ab_Pc_blind, hrc C0 hC hW hS, fun U hU hw => ⟨rfl, ab_pw C0 hC hW hS hU hw⟩⟩ rfl (by rw [List.length_map]) hL.1.1
    (by show (As.reverse ++ .ref b :: st).map (ab_cv α) = _; rw [List.map_append, List.map_cons, List.map_reverse]; rfl) (lv_room (by rw [ab_catsum]; exact hrest)) dd ⟨hR.2.2.1, hR.2.2.2⟩
  exact wa_back kR (fun E n' h' hq _ => absurd hq (hno _ _ _)) C0 hC hL hs2 hl hS hF hT (vx_Run.of hr)
theorem wa_callO {C owner : String} {x : MethodName} {b ci N : Nat} {T0 : u_T} {fs : List Value} (dd : decode cc pc = .ok (.invokevirtual index, 3)) (lk : ab_lkO own index C owner x y cc2 maxL2 ret2 As.length) (hA : AM y cc2 maxL2 ret2 [] d mc ms (.ref b :: As) n h Q0) (hno : ∀ E n' h', ¬ Q0 (.inr E) n' h') (hst : stk = As.reverse ++ .ref b :: st)
    (hbe : h b = .inr (ci, fs)) (hc : ab_cl[ci]? = some (C, T0, N)) (hb : ab_dom n h b)
    (hlen : (ab_el (.ref b :: As)).length ≤ maxL2) (hR : ab_fit R d maxL2 mc ms k z) (hrest : (st.map fun v => v.category).sum ≤ 8)
    (kR : ∀ ro n' h', Q0 (.inl ro) n' h' → n ≤ n' → WX Xx own cc nL hh R Q (k + mc) (z + ms) (pc + 3) ls (ro.toList ++ st) n' h') : WX Xx own cc nL hh R Q k z pc ls stk n h := by
  refine wa_callO0 dd lk hA hno hst ?_ hlen hR hrest kR
  intro p l s m args meth c base D T α H locs C0 hC hW hS
  exact ab_rcv hC C0.2.2.2.2.2.1 hW hS hb hbe hc
/-- clone of a row of bytes -/
theorem wa_cloneB {a len : Nat} {f : Nat → Int32} (dd : decode cc pc = .ok (.invokevirtual index, 3)) (hw : ∀ w ∈ [Cond.methodLink own index ⟨"[B", "clone", "()Ljava/lang/Object;"⟩, .sameMethod "[B" "java/lang/Object" "clone" "()Ljava/lang/Object;", .native ⟨"java/lang/Object", "clone", "()Ljava/lang/Object;"⟩, .instanceMethod ⟨"java/lang/Object", "clone", "()Ljava/lang/Object;"⟩, .selects "[B" ⟨"[B", "clone", "()Ljava/lang/Object;"⟩ ⟨"java/lang/Object", "clone", "()Ljava/lang/Object;"⟩], w ∈ ab_big)
    (ha : a < n) (he : h a = .inl (1, len, .inl f)) (hf : ∀ i, fits .byte (.int (f i)) = true) (hn1 : n + 1 < ab_CB) (hcells : k + 1 ≤ R.cells) (hslots : z + len ≤ R.slots) (hR : 1 ≤ R.frames ∧ (st.map fun v => v.category).sum + 14 ≤ R.locals)
    (K : WX Xx own cc nL hh R Q (k + 1) (z + len) (pc + 3) ls (.ref n :: st) (n + 1) (ab_up h n (.inl (1, len, .inl f)))) : WX Xx own cc nL hh R Q k z pc ls (.ref a :: st) n h := by
  intro p l e s m args below meth c base D T C0 α H L locs Fin hC hW hL hs hl hS hF hT
  have g0 := ab_wl_get (α := α) (T := T) (h := h) ha
  rw [he] at g0
  have htt : (ab_tys T)[1]? = some (T 1, .byte) := rfl
  have hnm : s.vm.findClass "[B" = some (T 1) := (C0.2.2.2.2.2.1.2 1 (T 1, .byte) htt).2
  have hwb : ∀ (i : Nat) (w : Cond), [Cond.methodLink own index ⟨"[B", "clone", "()Ljava/lang/Object;"⟩, .sameMethod "[B" "java/lang/Object" "clone" "()Ljava/lang/Object;", .native ⟨"java/lang/Object", "clone", "()Ljava/lang/Object;"⟩, .instanceMethod ⟨"java/lang/Object", "clone", "()Ljava/lang/Object;"⟩, .selects "[B" ⟨"[B", "clone", "()Ljava/lang/Object;"⟩ ⟨"java/lang/Object", "clone", "()Ljava/lang/Object;"⟩][i]? = some w → w.before args s = true := fun i w hq => C0.2.2.2.2.1 _ (hw w (List.mem_of_getElem? hq))
  refine va_clone (x := (len, .inl f)) (ty := .byte) C0.1 C0.2.1 (by rw [C0.2.2.1]; exact hL.1.1.symm) C0.2.2.2.1 (hwb 0 _ rfl) (hwb 1 _ rfl) (hwb 2 _ rfl) (hwb 3 _ rfl) (hwb 4 _ rfl) (hC.2.2.2.2.2.2.2.2.1 ("[B", "java/lang/Cloneable") (List.mem_of_getElem? (i := 4) rfl)) C0.2.2.2.2.2.1 hW.1 hW.2.1 hS (fun q hq => Nat.le_trans C0.2.2.2.2.2.2.1 hq) a 1 g0 htt hnm (fun i v hv => ?_) hR.1 (by rw [ab_catsum]; exact hR.2) hcells hslots dd (fun q H1 _ hP1 hD1 hS1 => ?_)
  · have hv' : (arrV (T 1) len (fun j => .int (f j))).slots[i]? = some v := hv
    have hi : i < len := by
      have := (Array.getElem?_eq_some_iff.mp hv').1
      rwa [arrV_size] at this
    rw [arrV_read _ _ hi] at hv'
    cases hv'
    exact hf i
  · exact wa_made hn1 (e0 := .inl (1, len, .inl f)) trivial K C0 hC hW hL (ab_wst hs) hl hF hT q H1 locs hP1 hD1 hS1
theorem wa_castB {a len : Nat} {f : Nat → Int32} (dd : decode cc pc = .ok (.checkcast index, 3)) (hlink : Cond.classLink own index "[B" ∈ ab_big) (ha : a < n) (he : h a = .inl (1, len, .inl f))
    (K : WX Xx own cc nL hh R Q k z (pc + 3) ls (.ref a :: st) n h) : WX Xx own cc nL hh R Q k z pc ls (.ref a :: st) n h := by
  intro p l e s m args below meth c base D T C0 α H L locs Fin hC hW hL hs hl hS hF hT
  have g0 := ab_wl_get (α := α) (T := T) (h := h) ha
  rw [he] at g0
  have hnm : s.vm.findClass "[B" = some (T 1) := (C0.2.2.2.2.2.1.2 1 (T 1, .byte) rfl).2
  exact va_castA C0.1 C0.2.1 C0.2.2.2.1 (C0.2.2.2.2.1 _ hlink) hW.1 a g0 hnm dd (K p l e s m args below meth c base D T C0 α H L locs Fin hC hW hL hs hl hS hF hT)
end OV
theorem lk_clone : ∀ w ∈ [Cond.methodLink RJ7 310 ⟨"[B", "clone", "()Ljava/lang/Object;"⟩, .sameMethod "[B" "java/lang/Object" "clone" "()Ljava/lang/Object;", .native ⟨"java/lang/Object", "clone", "()Ljava/lang/Object;"⟩, .instanceMethod ⟨"java/lang/Object", "clone", "()Ljava/lang/Object;"⟩, .selects "[B" ⟨"[B", "clone", "()Ljava/lang/Object;"⟩ ⟨"java/lang/Object", "clone", "()Ljava/lang/Object;"⟩], w ∈ ab_big := List.forall_mem_cons.mpr ⟨ab_big_mem 531 (by decide +kernel) (by decide), List.forall_mem_cons.mpr ⟨ab_big_mem 532 (by decide +kernel) (by decide), List.forall_mem_cons.mpr ⟨ab_big_mem 533 (by decide +kernel) (by decide), List.forall_mem_cons.mpr ⟨ab_big_mem 534 (by decide +kernel) (by decide), List.forall_mem_cons.mpr ⟨ab_big_mem 535 (by decide +kernel) (by decide), List.forall_mem_nil _⟩⟩⟩⟩⟩
theorem lk_J0_549 : ab_lkO RJ0 549 RJ4 "java/lang/AbstractStringBuilder" yJ5_length_8abf5 yJ4_length_8abf5 cJ4_length_8abf5 1 (some .int) 0 := ⟨List.forall_mem_cons.mpr ⟨ab_big_mem 706 (by decide +kernel) (by decide), List.forall_mem_cons.mpr ⟨ab_big_mem 708 (by decide +kernel) (by decide), List.forall_mem_cons.mpr ⟨ab_big_mem 707 (by decide +kernel) (by decide), List.forall_mem_cons.mpr ⟨ab_big_mem 709 (by decide +kernel) (by decide), List.forall_mem_cons.mpr ⟨ab_big_mem 710 (by decide +kernel) (by decide), List.forall_mem_cons.mpr ⟨ab_big_mem 45 (by decide +kernel) (by decide), List.forall_mem_cons.mpr ⟨ab_big_mem 711 (by decide +kernel) (by decide), List.forall_mem_nil _⟩⟩⟩⟩⟩⟩⟩, ⟨by decide +kernel, by decide +kernel, by decide +kernel, by decide +kernel⟩, ⟨cJ5_length_8abf5, 1, some .int, ab_big_mem 713 (by decide +kernel) (by decide)⟩, by decide +kernel, by decide +kernel, by decide +kernel⟩
theorem js_ckLen {n len : Nat} {h : ab_H} (hl : len < 2 ^ 31) : AM yJ7_checkLength_df160 cJ7_checkLength_df160 2 none [] 0 0 0 [.int 0, .int (nI len)] n h (PVh n h) := by
  intro has
  change WA RJ7 cJ7_checkLength_df160 2 [] _ _ 0 0 0 [some (.int 0), some (.int (nI len))] [] n _
  refine wa_iload_n dJ7_checkLength_df160_0 rfl ?_
  refine wa_iload_n dJ7_checkLength_df160_1 rfl ?_
  refine wa_icmp_ge 37 dJ7_checkLength_df160_2 rfl (fun c2 => ?_) (fun c2 => absurd (nI_0le (by omega)) c2)
  exact wa_return dJ7_checkLength_df160_37 ⟨Nat.le_refl _, Nat.le_refl _, rfl, rfl, rfl, rfl⟩
theorem js_cpRange0 {n a cap len : Nat} {h : ab_H} {f : Nat → Int32} (ha : a < n) (he : h a = .inl (1, cap, .inl f)) (hl : len ≤ cap) (hc : cap ≤ 5000) (hn1 : n + 1 < ab_CB) (hf : ∀ i, 0 ≤ (f i).toInt ∧ (f i).toInt < 128) : AM yJ7_copyOfRangeByte_39247 cJ7_copyOfRangeByte_39247 5 (some (.array .byte)) [] 1 1 len [.ref a, .int 0, .int (nI len)] n h (fun r n' h' => r = .inl (some (.ref n)) ∧ n' = n + 1 ∧ ∃ F : Nat → Int32, (∀ i, i < len → F i = f i) ∧ h' = ab_up h n (.inl (1, len, .inl F))) := by
  intro has
  change WA RJ7 cJ7_copyOfRangeByte_39247 5 [] _ _ 0 0 0 [some (.ref a), some (.int 0), some (.int (nI len)), none, none] [] n _
  refine wa_iload_n dJ7_copyOfRangeByte_39247_0 rfl ?_
  refine wa_iload_n dJ7_copyOfRangeByte_39247_1 rfl ?_
  refine c_SV dJ7_copyOfRangeByte_39247_2 (js_ckLen (by omega)) lk_J7_343 rfl ?_
  refine wa_iload_n dJ7_copyOfRangeByte_39247_5 rfl ?_
  refine wa_iload_n dJ7_copyOfRangeByte_39247_6 rfl ?_
  refine wa_isub dJ7_copyOfRangeByte_39247_7 ?_
  rw [Int32.sub_zero]
  refine wa_istore_n dJ7_copyOfRangeByte_39247_8 rfl ?_
  refine wa_iload_n dJ7_copyOfRangeByte_39247_9 rfl ?_
  refine wa_newB (len := len) dJ7_copyOfRangeByte_39247_10 (nI_toInt (by omega)) (by omega) hn1 (by simp [ab_rm]) (by simp [ab_rm]) ?_
  have ea : ab_up h n (.inl (1, len, .inl (fun _ => 0))) a = .inl (1, cap, .inl f) := (ab_up_n _ _ (by omega)).trans he
  refine wa_astore dJ7_copyOfRangeByte_39247_12 rfl ?_
  refine wa_aload_n dJ7_copyOfRangeByte_39247_14 rfl ?_
  refine wa_iload_n dJ7_copyOfRangeByte_39247_15 rfl ?_
  refine wa_aload dJ7_copyOfRangeByte_39247_16 rfl ?_
  refine wa_iconst (x := 0) dJ7_copyOfRangeByte_39247_18 (by decide) ?_
  refine wa_aload_n dJ7_copyOfRangeByte_39247_19 rfl ?_
  refine wa_alen (t := 1) (len := cap) dJ7_copyOfRangeByte_39247_20 (by decide) (Or.inl (by omega)) ea rfl ?_
  rw [show Int32.ofNat cap = nI cap from rfl]
  refine wa_iload_n dJ7_copyOfRangeByte_39247_21 rfl ?_
  refine wa_isub dJ7_copyOfRangeByte_39247_22 ?_
  rw [Int32.sub_zero]
  refine wa_iload_n dJ7_copyOfRangeByte_39247_23 rfl ?_
  refine c_SI dJ7_copyOfRangeByte_39247_24 (am_min _ _) lk_J7_304 rfl ?_
  rw [min_nI (by omega) (by omega), Nat.min_eq_right hl]
  refine wa_copy (t := 1) (ty := .byte) (sp := 0) (dp := 0) (len := len) dJ7_copyOfRangeByte_39247_27 lk_J7_150 (by omega) (Nat.lt_succ_self n) ea (ab_up_s _ _ _) rfl rfl rfl rfl (nI_toInt (by omega)) (by omega) (by omega) (fun i _ => (fits_b (hf _)).1) (by simp [ab_rm]) ?_
  rw [up_up7]
  refine wa_aload dJ7_copyOfRangeByte_39247_30 rfl ?_
  exact wa_areturn dJ7_copyOfRangeByte_39247_32 ⟨by simp, by simp, ⟨_, rfl, Or.inr ⟨_, rfl⟩⟩, rfl, rfl, _, fun i hi => (if_pos (by omega)).trans (by rw [Nat.zero_add, Nat.sub_zero]), rfl⟩
theorem js_cpRange {n a cap len : Nat} {h : ab_H} {f : Nat → Int32} (ha : a < n) (he : h a = .inl (1, cap, .inl f)) (hl : len ≤ cap) (hc : cap ≤ 5000) (hn1 : n + 1 < ab_CB) (hf : ∀ i, 0 ≤ (f i).toInt ∧ (f i).toInt < 128) : AM yJ7_copyOfRange_39247 cJ7_copyOfRange_39247 3 (some (.array .byte)) [] 2 1 len [.ref a, .int 0, .int (nI len)] n h (fun r n' h' => r = .inl (some (.ref n)) ∧ n' = n + 1 ∧ ∃ F : Nat → Int32, (∀ i, i < len → F i = f i) ∧ h' = ab_up h n (.inl (1, len, .inl F))) := by
  intro has
  change WA RJ7 cJ7_copyOfRange_39247 3 [] _ _ 0 0 0 [some (.ref a), some (.int 0), some (.int (nI len))] [] n _
  refine wa_iload_n dJ7_copyOfRange_39247_0 rfl ?_
  refine wa_if_ne 10 dJ7_copyOfRange_39247_1 rfl (fun c1 => absurd rfl c1) (fun c1 => ?_)
  refine wa_iload_n dJ7_copyOfRange_39247_4 rfl ?_
  refine wa_aload_n dJ7_copyOfRange_39247_5 rfl ?_
  refine wa_alen (t := 1) (len := cap) dJ7_copyOfRange_39247_6 (by decide) (Or.inl ha) he rfl ?_
  rw [show Int32.ofNat cap = nI cap from rfl]
  refine wa_icmp_eq 17 dJ7_copyOfRange_39247_7 rfl (fun c7 => ?_) (fun c7 => ?_)
  · have e0 : len = cap := nI_inj (by omega) (by omega) c7
    subst e0
    refine wa_aload_n dJ7_copyOfRange_39247_17 rfl ?_
    refine wa_cloneB dJ7_copyOfRange_39247_18 lk_clone ha he (fun i => (fits_b (hf i)).1) hn1 (by simp [ab_rm]) (by simp [ab_rm]) (by simp [ab_rm]) ?_
    refine wa_castB dJ7_copyOfRange_39247_21 wk_J7_311 (Nat.lt_succ_self n) (ab_up_s _ _ _) ?_
    exact wa_areturn dJ7_copyOfRange_39247_24 ⟨by simp, by simp, ⟨_, rfl, Or.inr ⟨_, rfl⟩⟩, rfl, rfl, f, fun _ _ => rfl, rfl⟩
  · skip
    refine wa_aload_n dJ7_copyOfRange_39247_10 rfl ?_
    refine wa_iload_n dJ7_copyOfRange_39247_11 rfl ?_
    refine wa_iload_n dJ7_copyOfRange_39247_12 rfl ?_
    refine wa_callS (As := [.ref a, .int 0, .int (nI len)]) dJ7_copyOfRange_39247_13 lk_J7_339 (js_cpRange0 ha he hl hc hn1 hf) rfl (by exact Nat.le_of_ble_eq_true rfl) (by unfold ab_fit ab_rm; refine ⟨?_, ?_, ?_, ?_⟩ <;> simp <;> omega) (by exact Nat.le_of_ble_eq_true rfl) (fun ro n' h' hq _ => ?_) (fun E n' h' q _ => by cases q.1)
    obtain ⟨q1, q2, q3⟩ := hq
    rw [q2]
    cases q1
    exact wa_areturn dJ7_copyOfRange_39247_16 ⟨by simp, by simp, ⟨_, rfl, Or.inr ⟨_, rfl⟩⟩, rfl, rfl, q3⟩
theorem sb_getValue {n : Nat} {S : SS} (hn : 269 ≤ n) : AM yJ5_getValue_6d5f1 cJ5_getValue_6d5f1 1 (some (.array .byte)) [] 0 0 0 [.ref 267] n (Hp S) (PA (.ref (sbr S)) n S) := by
  intro has
  change WA RJ5 cJ5_getValue_6d5f1 1 [] _ _ 0 0 0 [some (.ref 267)] [] n _
  refine wa_aload_n dJ5_getValue_6d5f1_0 rfl ?_
  refine g_SB hn 0 dJ5_getValue_6d5f1_1 fl_J5_15 (by decide) rfl ?_
  exact wa_areturn dJ5_getValue_6d5f1_4 ⟨by simp, by simp, ⟨_, rfl, Or.inr ⟨_, rfl⟩⟩, rfl, rfl, rfl⟩
theorem js_initS0 {n len j b : Nat} {S : SS} {f : Nat → Int32} {tl : List Value} (hn : 269 ≤ n) (hn1 : n + 1 < ab_CB) (h : SBI n S len j f) (hb : 269 ≤ b ∧ b < n) (hbe : ltc S b = .inr (6, .null :: .int 0 :: tl)) : AMi yJ0_init_db425 cJ0_init_db425 5 none [] 3 1 len [.ref b, .ref 267, .null] n (Hp S) (fun r n' h' => r = .inl none ∧ n' = n + 1 ∧ ∃ F : Nat → Int32, (∀ i, i < len → F i = f i) ∧ h' = ab_up (ab_up (Hp S) n (.inl (1, len, .inl F))) b (.inr (6, .ref n :: .int 0 :: tl))) := by
  intro has
  change WA RJ0 cJ0_init_db425 5 [] _ _ 0 0 0 [some (.ref b), some (.ref 267), some (.null), none, none] [] n _
  have hj := cpS_le (j := j) (by have := h.2.2.2.1.2; omega)
  have hbe2 : Hp S b = .inr (6, .null :: .int 0 :: tl) := (hp_lt S hb.1 (by omega)).trans hbe
  refine wa_aload_n dJ0_init_db425_0 rfl ?_
  refine wa_objInit dJ0_init_db425_1 wl_J0_1 wi_obj wc_obj (by simp [ab_ric]) ?_
  refine wa_aload_n dJ0_init_db425_4 rfl ?_
  refine wa_callU (As := []) dJ0_init_db425_5 lk_J0_552 (sb_getValue hn) (fun E n' h' q => by cases q.1) rfl (isO_SB _ _ _) rfl (Or.inl (ltS hn)) (by exact Nat.le_of_ble_eq_true rfl) (by unfold ab_fit ab_ric; refine ⟨?_, ?_, ?_, ?_⟩ <;> simp <;> omega) (by exact Nat.le_of_ble_eq_true rfl) (fun ro n' h' hq _ => ?_)
  obtain ⟨q1, q2, q3⟩ := hq
  rw [q2, q3]
  cases q1
  refine wa_astore_n dJ0_init_db425_8 rfl ?_
  refine wa_aload_n dJ0_init_db425_9 rfl ?_
  refine wa_callO (As := []) dJ0_init_db425_10 lk_J0_549 (sb_length hn h.2.2.1) (fun E n' h' q => by cases q.1) rfl (isO_SB _ _ _) rfl (Or.inl (ltS hn)) (by exact Nat.le_of_ble_eq_true rfl) (by unfold ab_fit ab_ric; refine ⟨?_, ?_, ?_, ?_⟩ <;> simp <;> omega) (by exact Nat.le_of_ble_eq_true rfl) (fun ro n' h' hq _ => ?_)
  obtain ⟨q1, q2, q3⟩ := hq
  rw [q2, q3]
  cases q1
  refine wa_istore dJ0_init_db425_13 rfl ?_
  refine wa_aload_n dJ0_init_db425_15 rfl ?_
  refine wa_callU (As := []) dJ0_init_db425_16 lk_J0_1047 (sb_isLatin1 hn) (fun E n' h' q => by cases q.1) rfl (isO_SB _ _ _) rfl (Or.inl (ltS hn)) (by exact Nat.le_of_ble_eq_true rfl) (by unfold ab_fit ab_ric; refine ⟨?_, ?_, ?_, ?_⟩ <;> simp <;> omega) (by exact Nat.le_of_ble_eq_true rfl) (fun ro n' h' hq _ => ?_)
  obtain ⟨q1, q2, q3⟩ := hq
  rw [q2, q3]
  cases q1
  refine wa_if_eq 41 dJ0_init_db425_19 rfl (fun c19 => absurd c19 (by decide)) (fun c19 => ?_)
  refine wa_aload_n dJ0_init_db425_22 rfl ?_
  refine wa_iconst (x := 0) dJ0_init_db425_23 (by decide) ?_
  refine wa_putF (v := .int 0) (ty := .byte) 1 tyJ0 dJ0_init_db425_24 fl_J0_15 cl_ST.1 cl_ST.2.1 cl_ST.2.2.1 cl_ST.2.2.2 (by decide) rfl (by simp [ab_ric]) rfl rfl (fun _ => rfl) (fun _ => rfl) hb.2 hbe2 (by simp) ?_
  rw [show ab_up (Hp S) b (.inr (6, (.null :: .int 0 :: tl).set 1 (.int 0))) = Hp S from up_same hbe2]
  refine wa_aload_n dJ0_init_db425_27 rfl ?_
  refine wa_aload_n dJ0_init_db425_28 rfl ?_
  refine wa_iconst (x := 0) dJ0_init_db425_29 (by decide) ?_
  refine wa_iload dJ0_init_db425_30 rfl ?_
  refine wa_callS (As := [.ref (sbr S), .int 0, .int (nI len)]) dJ0_init_db425_32 lk_J0_54 (js_cpRange h.1.2.1 ((hp_lx S h.1.1 (by have := h.1.2; omega)).trans h.2.1) h.2.2.2.1.1 (by omega) hn1 h.2.2.2.2) rfl (by exact Nat.le_of_ble_eq_true rfl) (by unfold ab_fit ab_ric; refine ⟨?_, ?_, ?_, ?_⟩ <;> simp <;> omega) (by exact Nat.le_of_ble_eq_true rfl) (fun ro n' h' hq _ => ?_) (fun E n' h' q _ => by cases q.1)
  obtain ⟨q1, q2, F, q3, q4⟩ := hq
  rw [q2, q4]
  cases q1
  refine wa_putF (v := .ref n) (ty := .array .byte) 0 tyJ0 dJ0_init_db425_35 fl_J0_9 cl_ST.1 cl_ST.2.1 cl_ST.2.2.1 cl_ST.2.2.2 (by decide) rfl (by simp [ab_ric]) rfl rfl (fun _ => rfl) (fun _ => rfl) (by omega) ((ab_up_n _ _ (by omega)).trans hbe2) (by simp) ?_
  refine wa_goto 97 dJ0_init_db425_38 rfl ?_
  exact wa_return dJ0_init_db425_97 ⟨by simp, by simp, rfl, rfl, rfl, F, q3, rfl⟩
theorem js_initS {n len j b : Nat} {S : SS} {f : Nat → Int32} {tl : List Value} (hn : 269 ≤ n) (hn1 : n + 1 < ab_CB) (h : SBI n S len j f) (hb : 269 ≤ b ∧ b < n) (hbe : ltc S b = .inr (6, .null :: .int 0 :: tl)) : AMi yJ0_init_81219 cJ0_init_81219 2 none [] 4 1 len [.ref b, .ref 267] n (Hp S) (fun r n' h' => r = .inl none ∧ n' = n + 1 ∧ ∃ F : Nat → Int32, (∀ i, i < len → F i = f i) ∧ h' = ab_up (ab_up (Hp S) n (.inl (1, len, .inl F))) b (.inr (6, .ref n :: .int 0 :: tl))) := by
  intro has
  change WA RJ0 cJ0_init_81219 2 [] _ _ 0 0 0 [some (.ref b), some (.ref 267)] [] n _
  refine wa_aload_n dJ0_init_81219_0 rfl ?_
  refine wa_aload_n dJ0_init_81219_1 rfl ?_
  refine wa_null dJ0_init_81219_2 ?_
  refine wa_callIc (As := [.ref 267, .null]) dJ0_init_81219_3 lk_J0_489 (js_initS0 hn hn1 h hb hbe) (fun E n' h' q => by cases q.1) rfl rfl (by exact Nat.le_of_ble_eq_true rfl) (by unfold ab_fitc ab_ric; refine ⟨?_, ?_, ?_, ?_⟩ <;> simp <;> omega) (by exact Nat.le_of_ble_eq_true rfl) (fun ro n' h' hq _ => ?_)
  obtain ⟨q1, q2, q3⟩ := hq
  rw [q2]
  cases q1
  exact wa_return dJ0_init_81219_6 ⟨by simp, by simp, rfl, rfl, rfl, q3⟩
/-- what toString leaves: a String at n, its bytes at n + 1 -/
def TSQ (n : Nat) (S : SS) (len : Nat) (f : Nat → Int32) : ab_R → Nat → ab_H → Prop := fun r n' h' => r = .inl (some (.ref n)) ∧ n' = n + 2 ∧ ∃ (F : Nat → Int32) (l : Nat → va_E), (∀ i, i < len → F i = f i) ∧ h' = Hp (sl S l) ∧ (∀ k, k < n → l k = ltc S k) ∧ l n = .inr (6, [.ref (n + 1), .int 0, .int 0, .int 0]) ∧ l (n + 1) = .inl (1, len, .inl F)
theorem sb_toString {n len j : Nat} {S : SS} {f : Nat → Int32} (hn : 269 ≤ n) (hn1 : n + 3 < ab_CB) (h : SBI n S len j f) : AM yJ4_toString_0e30d cJ4_toString_0e30d 1 (some (.object "java/lang/String")) [] 5 2 (len + 4) [.ref 267] n (Hp S) (TSQ n S len f) := by
  intro has
  change WA RJ4 cJ4_toString_0e30d 1 [] _ _ 0 0 0 [some (.ref 267)] [] n _
  refine wa_new (fs := [.null, .int 0, .int 0, .int 0]) tyJ0 dJ4_toString_0e30d_0 wk_J4_18 wi_J0 wz_J0 cl_ST.1 cl_ST.2.1 cl_ST.2.2.1 (by decide) (fun _ => rfl) (fun v hv => by simp at hv; rcases hv with rfl | rfl <;> trivial) (by omega) (by simp [ab_rm]) (by simp [ab_rm]) ?_
  rw [hp_sl (S := S) (n := n) (by omega) (by omega)]
  have h2 : SBI (n + 1) (sl S (fun k => if k = n then .inr (6, [.null, .int 0, .int 0, .int 0]) else ltc S k)) len j f := by
    obtain ⟨⟨a1, a2, a3⟩, a4, a5, a6, a7⟩ := h
    exact ⟨⟨a1, Nat.lt_succ_of_lt a2, by omega⟩, (if_neg (by show ¬ sbr S = n; omega)).trans a4, a5, a6, a7⟩
  refine wa_dup dJ4_toString_0e30d_3 rfl ?_
  refine wa_aload_n dJ4_toString_0e30d_4 rfl ?_
  refine wa_callIc (As := [.ref 267]) dJ4_toString_0e30d_5 lk_J4_137 (js_initS (b := n) (tl := [.int 0, .int 0]) (by omega) (by omega) h2 ⟨by omega, Nat.lt_succ_self n⟩ (if_pos rfl)) (fun E n' h' q => by cases q.1) rfl rfl (by exact Nat.le_of_ble_eq_true rfl) (by unfold ab_fitc ab_rm; refine ⟨?_, ?_, ?_, ?_⟩ <;> simp <;> omega) (by exact Nat.le_of_ble_eq_true rfl) (fun ro n' h' hq _ => ?_)
  obtain ⟨q1, q2, F, q3, q4⟩ := hq
  rw [q2, q4]
  cases q1
  rw [hp_sl (by omega) (by omega), hp_sl (by omega) (by omega)]
  exact wa_areturn dJ4_toString_0e30d_8 ⟨by omega, by omega, ⟨_, rfl, Or.inl ⟨_, rfl⟩⟩, rfl, rfl, F, _, q3, rfl, fun k hk => by
    show (if k = n then _ else if k = n + 1 then _ else if k = n then _ else _) = _
    rw [if_neg (by omega), if_neg (by omega), if_neg (by omega)], if_pos rfl, by
    show (if n + 1 = n then _ else if n + 1 = n + 1 then _ else _) = _
    rw [if_neg (by omega), if_pos rfl]⟩
