/-! THE ABSTRACT JUDGEMENT: throw new E(text), Object's constructor, arraycopy, the keywords, inherited methods. -/
def ab_xns : List String := ["java/lang/RuntimeException", "java/lang/Exception"]
def ab_xk (own E : String) (ik ic : Nat) : Prop := Bundle.fit E = true ∧ (∀ w ∈ Cond.classLink own ik E :: .initialized E :: (vx_atS own ic E ab_xns).filter goodWord, w ∈ ab_big) ∧ (∀ w ∈ (vx_atS own ic E ab_xns).filter (fun w => !goodWord w), w ∈ Cond.castable E E :: ab_nD.map Cond.declares) ∧ (∀ w ∈ Cond.classLink own ik E :: .initialized E :: vx_atS own ic E ab_xns, vx_ot w = true) ∧ (E, E) ∈ ab_nC
theorem ab_nD_use {base : Nat} {D : va_G} {T : Nat → ClassId} {α : Nat → Nat} {s : State} {H : Heap} (hC : ab_Cn base D T α s H) {args : Array Value} : ∀ w ∈ ab_nD.map Cond.declares, w.before args s = true := fun w hw => by
  obtain ⟨x, hx, rfl⟩ := List.mem_map.mp hw
  exact va_Nw.use rfl (hC.2.2.2.2.2.2.2.2.2.2.2.1 x hx)
theorem ab_xns_fit : ∀ n ∈ ab_xns, Bundle.fit n = true := by decide +kernel
section MO
variable {Xx : ab_X} {own : String} {cc : ByteArray} {nL : Nat} {hh : List (Nat × Nat × Nat × Nat)} {R : Room} {Q : ab_Q} {k z pc : Nat} {ls : List (Option Value)} {st stk : List Value} {n : Nat} {h : ab_H}
theorem wa_throw {E tx : String} {ik is ic j : Nat} {b : List Int32} (xk : ab_xk own E ik ic) (hq : ab_lits[j]? = some (own, is, tx, b))
    (d0 : decode cc pc = .ok (.new ik, 3)) (d3 : decode cc (pc + 3) = .ok (.dup, 1)) (d4 : decode cc (pc + 4) = .ok (.ldc is, 2)) (d6 : decode cc (pc + 6) = .ok (.invokespecial ic, 3)) (d9 : decode cc (pc + 9) = .ok (.athrow, 1))
    (hout : ∀ x ∈ tableOf hh, covers x (pc + 9) = false) (hR : 5 < R.frames ∧ (st.map fun v => v.category).sum + 82 ≤ R.locals ∧ k + 1 ≤ R.cells ∧ z + 6 ≤ R.slots) (hQ : Q (.inr E) (k + 1) (z + 6) n h) : WX Xx own cc nL hh R Q k z pc ls st n h := by
  intro p l e s m args below meth c base D T C0 α H L locs Fin hC hW hL hs hl hS hF hT
  obtain ⟨hE, hw, hnw, hot, hcst⟩ := xk
  refine hT.2 E n h α H L locs k z _ hQ (Nat.le_refl _) ab_Ag.rf hW hS (fun Qc XC mc ms hx hf hc hsl => ?_)
  have hat : ∀ w ∈ vx_atS own ic E ab_xns, w.before args s = true := vx_hat (B := Cond.castable E E :: ab_nD.map Cond.declares) (fun w h1 => C0.2.2.2.2.1 _ (hw w (List.mem_cons_of_mem _ (List.mem_cons_of_mem _ h1)))) hnw (vx_c (va_Nw.use rfl (hC.2.2.2.2.2.2.2.2.1 _ hcst)) (ab_nD_use hC))
  exact vx_throwS (names := ab_xns) C0.1 C0.2.1 C0.2.2.2.2.2.2.2.2.2.1 C0.2.2.2.1 hE ab_xns_fit (C0.2.2.2.2.1 _ (hw _ List.mem_cons_self)) (C0.2.2.2.2.1 _ (hw _ (List.mem_cons_of_mem _ List.mem_cons_self))) (hC.2.2.2.2.1 j _ hq) hat hot hC.2.2.2.2.2.1.1 hC.2.2.2.2.2.1.2 hS (by rw [C0.2.2.1]; exact hL.1.1)
    d0 d3 d4 d6 d9 (by rw [C0.2.2.2.2.2.2.2.1]; exact hout) hR.1 (by rw [ab_catsum]; exact hR.2.1) hR.2.2.1 hR.2.2.2 C0.2.2.2.2.2.2.2.2.1 hx hf hc hsl
theorem wa_throwW {E tx : String} {ik is ic j : Nat} {b : List Int32} (xk : ab_xk own E ik ic) (hq : ab_lits[j]? = some (own, is, tx, b))
    (d0 : decode cc pc = .ok (.new ik, 3)) (d3 : decode cc (pc + 3) = .ok (.dup, 1)) (d4 : decode cc (pc + 4) = .ok (.ldc_w is, 3)) (d7 : decode cc (pc + 7) = .ok (.invokespecial ic, 3)) (d10 : decode cc (pc + 10) = .ok (.athrow, 1))
    (hout : ∀ x ∈ tableOf hh, covers x (pc + 10) = false) (hR : 5 < R.frames ∧ (st.map fun v => v.category).sum + 82 ≤ R.locals ∧ k + 1 ≤ R.cells ∧ z + 6 ≤ R.slots) (hQ : Q (.inr E) (k + 1) (z + 6) n h) : WX Xx own cc nL hh R Q k z pc ls st n h := by
  intro p l e s m args below meth c base D T C0 α H L locs Fin hC hW hL hs hl hS hF hT
  obtain ⟨hE, hw, hnw, hot, hcst⟩ := xk
  refine hT.2 E n h α H L locs k z _ hQ (Nat.le_refl _) ab_Ag.rf hW hS (fun Qc XC mc ms hx hf hc hsl => ?_)
  have hat : ∀ w ∈ vx_atS own ic E ab_xns, w.before args s = true := vx_hat (B := Cond.castable E E :: ab_nD.map Cond.declares) (fun w h1 => C0.2.2.2.2.1 _ (hw w (List.mem_cons_of_mem _ (List.mem_cons_of_mem _ h1)))) hnw (vx_c (va_Nw.use rfl (hC.2.2.2.2.2.2.2.2.1 _ hcst)) (ab_nD_use hC))
  exact vx_throwSW (names := ab_xns) C0.1 C0.2.1 C0.2.2.2.2.2.2.2.2.2.1 C0.2.2.2.1 hE ab_xns_fit (C0.2.2.2.2.1 _ (hw _ List.mem_cons_self)) (C0.2.2.2.2.1 _ (hw _ (List.mem_cons_of_mem _ List.mem_cons_self))) (hC.2.2.2.2.1 j _ hq) hat hot hC.2.2.2.2.2.1.1 hC.2.2.2.2.2.1.2 hS (by rw [C0.2.2.1]; exact hL.1.1)
    d0 d3 d4 d7 d10 (by rw [C0.2.2.2.2.2.2.2.1]; exact hout) hR.1 (by rw [ab_catsum]; exact hR.2.1) hR.2.2.1 hR.2.2.2 C0.2.2.2.2.2.2.2.2.1 hx hf hc hsl
theorem wa_objInit {index a : Nat} (dd : decode cc pc = .ok (.invokespecial index, 3)) (hlink : Cond.methodLink own index objectInit ∈ ab_big) (hinst : Cond.instanceMethod objectInit ∈ ab_big) (hcode : Cond.code objectInit ⟨#[0xb1]⟩ 1 none ∈ ab_big) (hR : 1 ≤ R.frames ∧ (st.map fun v => v.category).sum + 12 ≤ R.locals)
    (K : WX Xx own cc nL hh R Q k z (pc + 3) ls st n h) : WX Xx own cc nL hh R Q k z pc ls (.ref a :: st) n h := by
  intro p l e s m args below meth c base D T C0 α H L locs Fin hC hW hL hs hl hS hF hT
  refine W.objInit (g := F0 m pc L (.ref (α a) :: st.map (ab_cv α))) C0.1 C0.2.1 C0.2.2.2.1 (C0.2.2.2.2.1 _ hlink) (C0.2.2.2.2.1 _ hinst) (C0.2.2.2.2.1 _ hcode) rfl (by rw [C0.2.2.1]; exact hL.1.1) rfl dd hR.1 (by rw [ab_catsum]; show 2 * 0 + _ + 12 ≤ _; omega) ?_
  exact K p l e s m args below meth c base D T C0 α H L locs Fin hC hW hL (ab_wst hs) hl hS hF hT
theorem wa_copy {index t a0 a1 n0 n1 sp dp len : Nat} {f g : Nat → Int32} {isp idp ilen : Int32} {ty : FieldType} (dd : decode cc pc = .ok (.invokestatic index, 3)) (hw : ∀ w ∈ [Cond.methodLink own index arraycopyName, .native arraycopyName, .static arraycopyName, .initialized "java/lang/System"], w ∈ ab_big)
    (h0 : a0 < n) (h1 : a1 < n) (he0 : h a0 = .inl (t, n0, .inl f)) (he1 : h a1 = .inl (t, n1, .inl g)) (ht : ab_tl[t]? = some ty) (hprim : refKind ty = false) (hsp : isp.toInt = (sp : Int)) (hdp : idp.toInt = (dp : Int)) (hlen : ilen.toInt = (len : Int)) (hb0 : sp + len ≤ n0) (hb1 : dp + len ≤ n1) (hfit : ∀ i, i < len → fits ty (.int (f (sp + i))) = true)
    (hR : 1 ≤ R.frames ∧ (st.map fun v => v.category).sum + 60 ≤ R.locals)
    (K : WX Xx own cc nL hh R Q k z (pc + 3) ls st n (ab_up h a1 (.inl (t, n1, .inl (va_cpy f g sp dp len))))) : WX Xx own cc nL hh R Q k z pc ls (.int ilen :: .int idp :: .ref a1 :: .int isp :: .ref a0 :: st) n h := by
  intro p l e s m args below meth c base D T C0 α H L locs Fin hC hW hL hs hl hS hF hT
  have nn : ∀ (x : Int32) (j : Nat), x.toInt = (j : Int) → ¬ x < 0 ∧ x.toNatClampNeg = j := fun x j hx => ⟨by rw [Int32.lt_iff_toInt_lt, Int32.toInt_zero]; omega, by show x.toInt.toNat = j; omega⟩
  obtain ⟨s1, s2⟩ := nn _ _ hsp
  obtain ⟨d1, d2⟩ := nn _ _ hdp
  obtain ⟨l1, l2⟩ := nn _ _ hlen
  have g0 := ab_wl_get (α := α) (T := T) (h := h) h0
  have g1 := ab_wl_get (α := α) (T := T) (h := h) h1
  rw [he0] at g0
  rw [he1] at g1
  have htt : (ab_tys T)[t]? = some (T t, ty) := by
    unfold ab_tys
    rw [List.getElem?_map, List.getElem?_zipIdx, ht]
    simp
  have hwb : ∀ w ∈ [Cond.methodLink own index arraycopyName, .native arraycopyName, .static arraycopyName, .initialized "java/lang/System"], w.before args s = true := fun w hq => C0.2.2.2.2.1 _ (hw w hq)
  have hnf : nativeFrameWords "java/lang/System" "arraycopy" 5 + 11 ≤ 60 := by decide
  refine va_copyi C0.1 C0.2.1 (by rw [C0.2.2.1]; exact hL.1.1.symm) C0.2.2.2.1 (hwb _ (List.mem_of_getElem? (i := 0) rfl)) (hwb _ (List.mem_of_getElem? (i := 1) rfl)) (hwb _ (List.mem_of_getElem? (i := 2) rfl)) (hwb _ (List.mem_of_getElem? (i := 3) rfl)) C0.2.2.2.2.2.1 hW.1 hW.2.1 hS a0 a1 t t g0 g1 htt htt hprim s1 d1 l1 (by rw [s2, l2]; exact hb0) (by rw [d2, l2]; exact hb1) (by rw [l2, s2]; exact hfit) hR.1 (by rw [ab_catsum]; omega) dd (fun H1 locs1 hP1 hD1 hS1 => ?_)
  rw [s2, d2, l2] at hP1 hD1
  exact K p l e s m args below meth c base D T C0 α H1 L locs1 Fin hC (ab_Wd.set (e := .inl (t, n1, .inl (va_cpy f g sp dp len))) h1 hW trivial hP1 hD1) hL (ab_wst (ab_wst (ab_wst (ab_wst (ab_wst hs))))) hl hS1 hF hT
theorem wa_spelling {index i j : Nat} (dd : decode cc pc = .ok (.getfield index, 3)) (hlink : Cond.fieldLink own index "ValveRoom$Keyword" "spelling" "Ljava/lang/String;" ∈ ab_big) (hi : i < 18) (hj : ((ab_kws[i]?).map (fun q => q.2)).getD 0 = j)
    (K : WX Xx own cc nL hh R Q k z (pc + 3) ls (.ref (ab_CB + 2 * j) :: st) n h) : WX Xx own cc nL hh R Q k z pc ls (.ref (ab_CB + (112 + i)) :: st) n h := by
  intro p l e s m args below meth c base D T C0 α H L locs Fin hC hW hL hs hl hS hF hT
  have h3 := (hC.2.1 i hi).2.2
  rw [hj] at h3
  exact vk_getf C0.1 C0.2.1 h3 hS C0.2.2.2.1 (C0.2.2.2.2.1 _ hlink) (fun x hx => hx) dd (K p l e s m args below meth c base D T C0 α H L locs Fin hC hW hL (ab_ws1 (v := .ref (ab_CB + 2 * j)) (Or.inr (by omega)) (ab_wst hs)) hl hS hF hT)
theorem wa_ordinalf {index i : Nat} (dd : decode cc pc = .ok (.getfield index, 3)) (hlink : Cond.fieldLink own index "java/lang/Enum" "ordinal" "I" ∈ ab_big) (hi : i < 18)
    (K : WX Xx own cc nL hh R Q k z (pc + 3) ls (.int (Int32.ofNat i) :: st) n h) : WX Xx own cc nL hh R Q k z pc ls (.ref (ab_CB + (112 + i)) :: st) n h := by
  intro p l e s m args below meth c base D T C0 α H L locs Fin hC hW hL hs hl hS hF hT
  exact vk_getf C0.1 C0.2.1 (hC.2.1 i hi).2.1 hS C0.2.2.2.1 (C0.2.2.2.2.1 _ hlink) (fun x hx => hx) dd (K p l e s m args below meth c base D T C0 α H L locs Fin hC hW hL (ab_ws1 ab_wi (ab_wst hs)) hl hS hF hT)
/-- two references, keywords or null, compared -/
theorem wa_acmpneK {off : Int} {i j : Nat} (tgt : Nat) (dd : decode cc pc = .ok (.if_acmp .ne off, 3)) (ht : (pc : Int) + off = (tgt : Int)) (hi : i < 18) (hj : j < 18)
    (K : ¬ i = j → WX Xx own cc nL hh R Q k z tgt ls st n h) (K' : i = j → WX Xx own cc nL hh R Q k z (pc + 3) ls st n h) : WX Xx own cc nL hh R Q k z pc ls (.ref (ab_CB + (112 + j)) :: .ref (ab_CB + (112 + i)) :: st) n h := by
  intro p l e s m args below meth c base D T C0 α H L locs Fin hC hW hL hs hl hS hF hT
  refine lv_acmp_ne (rx := some (α (ab_CB + (112 + i)))) (ry := some (α (ab_CB + (112 + j)))) C0.1 C0.2.1 dd ht (fun q => ?_) (fun q => ?_)
  · exact K (fun e0 => q (by rw [e0])) p l e s m args below meth c base D T C0 α H L locs Fin hC hW hL (ab_wst (ab_wst hs)) hl hS hF hT
  · exact K' (hC.2.2.1 i j hi hj (Option.some.inj q)) p l e s m args below meth c base D T C0 α H L locs Fin hC hW hL (ab_wst (ab_wst hs)) hl hS hF hT
theorem wa_acmpneN {off : Int} {b : Nat} (tgt : Nat) (dd : decode cc pc = .ok (.if_acmp .ne off, 3)) (ht : (pc : Int) + off = (tgt : Int))
    (K : WX Xx own cc nL hh R Q k z tgt ls st n h) : WX Xx own cc nL hh R Q k z pc ls (.ref b :: .null :: st) n h := by
  intro p l e s m args below meth c base D T C0 α H L locs Fin hC hW hL hs hl hS hF hT
  refine lv_acmp_ne (rx := none) (ry := some (α b)) C0.1 C0.2.1 dd ht (fun q => ?_) (fun q => by cases q)
  exact K p l e s m args below meth c base D T C0 α H L locs Fin hC hW hL (ab_wst (ab_wst hs)) hl hS hF hT
end MO
