/-! StringBuilder: append of a String. Written by program (wip/whole/gen/m840.py) but for the heads. -/
/-- System.arraycopy out of a constant row of bytes -/
theorem va_copyT {p : Program} {l : Launch} {e : Env} {R : Room} {s : State} {m : MethodId} {args : Array Value} {below : List Frame} {meth : Method} {c : Code} {D : va_G} {cl : List vw_C} {tys : List (ClassId × FieldType)} {ws : va_W} {A : Nat → Prop} {H : Heap} {locs : List Loc} {cells slots : Nat} {Q : State → Prop} {pc a : Nat} {ls : Array Slot} {rest : List Value} {cc : ByteArray} (hexec : p.tables.exec = Jvm.exec) (hb : c.code = cc) (hml : c.maxLocals = ls.size) {own : String} {index : Nat} (hown : s.vm.findClass own = some m.cls) (hlink : (Cond.methodLink own index arraycopyName).before args s = true) (hnat : (Cond.native arraycopyName).before args s = true) (hstat : (Cond.static arraycopyName).before args s = true) (hini : (Cond.initialized "java/lang/System").before args s = true)
    (hK : va_K D cl tys s) (hP : va_P D cl ws H) (hD : va_D A ws) (hS : va_S A s.heap H locs) {b0 n0 : Nat} {f : Nat → Int32} (hX : va_T .byte b0 n0 (fun j => .int (f j)) A s s.heap) (q1 t1 : Nat) {c1 : ClassId} {n1 : Nat} {g : Nat → Int32} (ha1 : ws[q1]? = some (a, .inl (c1, n1, .inl g))) (ht1 : tys[t1]? = some (c1, .byte))
    {sp dp n : Int32} (h1 : ¬ sp < 0) (h2 : ¬ dp < 0) (h3 : ¬ n < 0) (h4 : sp.toNatClampNeg + n.toNatClampNeg ≤ n0) (h5 : dp.toNatClampNeg + n.toNatClampNeg ≤ n1) (hfit : ∀ i, i < n.toNatClampNeg → fits .byte (.int (f (sp.toNatClampNeg + i))) = true)
    (hframes : 1 ≤ R.frames) (hlocals : (rest.map fun v => v.category).sum + (nativeFrameWords "java/lang/System" "arraycopy" 5 + 11) ≤ R.locals) (hdg : decode cc pc = .ok (.invokestatic index, 3))
    (kk : ∀ (H1 : Heap) (locs1 : List Loc), va_P D cl (ws.set q1 (a, .inl (c1, n1, .inl (va_cpy f g sp.toNatClampNeg dp.toNatClampNeg n.toNatClampNeg)))) H1 → va_D A (ws.set q1 (a, .inl (c1, n1, .inl (va_cpy f g sp.toNatClampNeg dp.toNatClampNeg n.toNatClampNeg)))) → va_S A s.heap H1 locs1 → W p l e R s m args below meth c H1 locs1 cells slots Q (F0 m (pc + 3) ls rest)) : W p l e R s m args below meth c H locs cells slots Q (F0 m pc ls (.int n :: .int dp :: .ref a :: .int sp :: .ref b0 :: rest)) := by
  have nn : ∀ z : Int32, ¬ z < 0 → z.toInt = (z.toNatClampNeg : Int) := by
    intro z hz
    have hz0 : (0 : Int) ≤ z.toInt := by
      have := Int32.not_lt.mp hz
      simpa using Int32.le_iff_toInt_le.mp this
    show z.toInt = ((z.toInt.toNat : Nat) : Int)
    omega
  intro T hT X
  obtain ⟨scr, hs1, hs2, hs3, hs4, -, hs5, hbA⟩ := hX
  have hbl : b0 < s.heap.size := (Array.getElem?_eq_some_iff.mp hs1).1
  have hc0 : H[b0]? = some scr := by rw [hS.2.1 b0 hbl hbA]; exact hs1
  have hc1 : H[a]? = some (vp_cell c1 (n1, .inl g)) := hP q1 _ ha1
  obtain ⟨hs6, k0, hk0, cm0, hkk0⟩ := hs2
  obtain ⟨-, k1, hk1, cm1, hkk1⟩ := (hK.2 t1 _ ht1).1 n1 (fun j => .int (g j))
  obtain ⟨vm', X', step⟩ := X.arraycopy hexec hown hlink hnat hstat hini (src := b0) (dst := a) (cs := scr) (cd := vp_cell c1 (n1, .inl g)) (srcPos := sp) (destPos := dp) (n := n) (by rw [hT]; exact hc0) (by rw [hT]; exact hc1)
    hs6 (fun _ h => by cases h) hs3 (fun h => by cases h) hk0 hk1 hkk0 hkk1 (by simp [refKind]) h1 h2 h3
    (by rw [nn sp h1, nn n h3]; omega)
    (by rw [nn dp h2, nn n h3]; show ¬ _ > ((arrV c1 n1 (fun j => .int (g j))).slots.size : Int); rw [arrV_size]; omega)
    (fun vm₁ _ i hi => by
      have e : scr.slots.getD (sp.toNatClampNeg + i) .null = .int (f (sp.toNatClampNeg + i)) := by
        rw [Array.getD_eq_getD_getElem?, hs5 _ (by omega)]
        rfl
      refine ⟨?_, ?_⟩
      · rw [e]
        exact hfit i hi
      · rw [e]
        exact trivial)
    (g := F0 m pc ls (.int n :: .int dp :: .ref a :: .int sp :: .ref b0 :: rest)) rfl (by rw [hml]) (rest := rest) rfl (by rw [hb]; exact hdg) hframes (by show 2 * 0 + _ + _ ≤ _; omega)
  have e1 : copied scr (vp_cell c1 (n1, .inl g)) sp dp n = vp_cell c1 (n1, .inl (va_cpy f g sp.toNatClampNeg dp.toNatClampNeg n.toNatClampNeg)) := va_copiedX (fun z => .int z) scr c1 f g hs5 h4
  rw [e1] at X' step
  have hl : a < H.size := (Array.getElem?_eq_some_iff.mp hc1).1
  have hheap : ((T.setVm vm').setCell a (vp_cell c1 (n1, .inl (va_cpy f g sp.toNatClampNeg dp.toNatClampNeg n.toNatClampNeg)))).heap = H.setIfInBounds a (vp_cell c1 (n1, .inl (va_cpy f g sp.toNatClampNeg dp.toNatClampNeg n.toNatClampNeg))) := by rw [← hT]; rfl
  have oq : ∀ q : Nat, q ≠ a → (H.setIfInBounds a (vp_cell c1 (n1, .inl (va_cpy f g sp.toNatClampNeg dp.toNatClampNeg n.toNatClampNeg))))[q]? = H[q]? := fun q hq => by simp [Array.getElem?_setIfInBounds, Ne.symm hq]
  obtain ⟨t, a1, b1⟩ := kk _ _ (hP.set hD ha1 (show (H.setIfInBounds a _)[a]? = some _ by simp [Array.getElem?_setIfInBounds, hl]) oq) (hD.set ha1) ⟨by simp; exact hS.1, fun q g1 g2 => by
      rw [oq q (fun e => g2 (by rw [e]; exact hD.2 q1 _ ha1))]
      exact hS.2.1 q g1 g2, fun q hq => by
      rcases List.mem_append.mp hq with h | h
      · exact hS.2.2 q h
      · obtain ⟨z, -, hz⟩ := List.mem_map.mp h
        rw [← hz]
        exact hD.2 q1 _ ha1⟩ _ hheap X'
  exact ⟨t, step t a1, b1⟩
theorem wa_copyK {Xx : ab_X} {own : String} {cc : ByteArray} {nL : Nat} {hh : List (Nat × Nat × Nat × Nat)} {R : Room} {Q : ab_Q} {k z pc : Nat} {ls : List (Option Value)} {st : List Value} {n : Nat} {h : ab_H}
    {index i0 a1 n0 n1 sp dp len : Nat} {f g : Nat → Int32} {isp idp ilen : Int32} (dd : decode cc pc = .ok (.invokestatic index, 3)) (hw : ∀ w ∈ [Cond.methodLink own index arraycopyName, .native arraycopyName, .static arraycopyName, .initialized "java/lang/System"], w ∈ ab_big)
    (hi0 : (i0 < 112 ∨ 130 ≤ i0) ∧ i0 < ab_NK) (hk0 : ab_kc i0 = .inl (1, n0, .inl f)) (h1 : a1 < n) (he1 : h a1 = .inl (1, n1, .inl g)) (hsp : isp.toInt = (sp : Int)) (hdp : idp.toInt = (dp : Int)) (hlen : ilen.toInt = (len : Int)) (hb0 : sp + len ≤ n0) (hb1 : dp + len ≤ n1) (hfit : ∀ i, i < len → fits .byte (.int (f (sp + i))) = true)
    (hR : 1 ≤ R.frames ∧ (st.map fun v => v.category).sum + 60 ≤ R.locals)
    (K : WX Xx own cc nL hh R Q k z (pc + 3) ls st n (ab_up h a1 (.inl (1, n1, .inl (va_cpy f g sp dp len))))) : WX Xx own cc nL hh R Q k z pc ls (.int ilen :: .int idp :: .ref a1 :: .int isp :: .ref (ab_CB + i0) :: st) n h := by
  intro p l e s m args below meth c base D T C0 α H L locs Fin hC hW hL hs hl hS hF hT
  have nn : ∀ (x : Int32) (j : Nat), x.toInt = (j : Int) → ¬ x < 0 ∧ x.toNatClampNeg = j := fun x j hx => ⟨by rw [Int32.lt_iff_toInt_lt, Int32.toInt_zero]; omega, by show x.toInt.toNat = j; omega⟩
  obtain ⟨s1, s2⟩ := nn _ _ hsp
  obtain ⟨d1, d2⟩ := nn _ _ hdp
  obtain ⟨l1, l2⟩ := nn _ _ hlen
  have hX0 := hC.1 i0 hi0.1 hi0.2
  rw [hk0] at hX0
  obtain ⟨ty, hty, hX⟩ := hX0
  cases hty
  have g1 := ab_wl_get (α := α) (T := T) (h := h) h1
  rw [he1] at g1
  have htt : (ab_tys T)[1]? = some (T 1, .byte) := rfl
  have hwb : ∀ w ∈ [Cond.methodLink own index arraycopyName, .native arraycopyName, .static arraycopyName, .initialized "java/lang/System"], w.before args s = true := fun w hq => C0.2.2.2.2.1 _ (hw w hq)
  have hnf : nativeFrameWords "java/lang/System" "arraycopy" 5 + 11 ≤ 60 := by decide
  refine va_copyT C0.1 C0.2.1 (by rw [C0.2.2.1]; exact hL.1.1.symm) C0.2.2.2.1 (hwb _ (List.mem_of_getElem? (i := 0) rfl)) (hwb _ (List.mem_of_getElem? (i := 1) rfl)) (hwb _ (List.mem_of_getElem? (i := 2) rfl)) (hwb _ (List.mem_of_getElem? (i := 3) rfl)) C0.2.2.2.2.2.1 hW.1 hW.2.1 hS hX a1 1 g1 htt s1 d1 l1 (by rw [s2, l2]; exact hb0) (by rw [d2, l2]; exact hb1) (by rw [l2, s2]; exact hfit) hR.1 (by rw [ab_catsum]; omega) dd (fun H1 locs1 hP1 hD1 hS1 => ?_)
  rw [s2, d2, l2] at hP1 hD1
  exact K p l e s m args below meth c base D T C0 α H1 L locs1 Fin hC (ab_Wd.set (e := .inl (1, n1, .inl (va_cpy f g sp dp len))) h1 hW trivial hP1 hD1) hL (ab_wst (ab_wst (ab_wst (ab_wst (ab_wst hs))))) hl hS1 hF hT
/-- a literal, of letters that are bytes -/
def STX (n : Nat) (S : SS) (a len : Nat) (fs : Nat → Int32) : Prop := len ≤ 16 ∧ (∀ i, i < len → 0 ≤ (fs i).toInt ∧ (fs i).toInt < 128) ∧ ∃ j, j < 56 ∧ a = ab_CB + 2 * j ∧ len = (ab_ks j).length ∧ fs = fun i => (ab_ks j).getD i 0
theorem STX.str {n a len : Nat} {S : SS} {fs : Nat → Int32} (h : STX n S a len fs) : STR n (Hp S) a len fs := by
  obtain ⟨-, -, j, hj, rfl, rfl, rfl⟩ := h
  exact str_lit hj
theorem STX.fr {n n' a len : Nat} {S S' : SS} {fs : Nat → Int32} (h : STX n S a len fs) : STX n' S' a len fs := h
theorem js_getBytes {n m0 m j a len : Nat} {S : SS} {f fs : Nat → Int32} (h : SBI n S m0 j f) (hX : STX n S a len fs) (hc : m + len ≤ cpS j) : AM yJ0_getBytes_840e7 cJ0_getBytes_840e7 4 none [] 2 0 0 [.ref a, .ref (sbr S), .int (nI m), .int 0] n (Hp S) (PVh n (ab_up (Hp S) (sbr S) (.inl (1, cpS j, .inl (va_cpy fs f 0 m len))))) := by
  intro has
  change WA RJ0 cJ0_getBytes_840e7 4 [] _ _ 0 0 0 [some (.ref a), some (.ref (sbr S)), some (.int (nI m)), some (.int 0)] [] n _
  have hX0 := hX
  obtain ⟨h2, h6, -⟩ := hX
  obtain ⟨hsl, ci, NN, v, tl, ⟨c1, c2, c3⟩, ⟨d1, he⟩, d2, hve⟩ := hX0.str
  have hj := cpS_le (j := j) (by have := h.2.2.2.1.2; omega)
  refine wa_aload_n dJ0_getBytes_840e7_0 rfl ?_
  refine c_VAh dJ0_getBytes_840e7_1 (am_scoder hX0.str) lk_J0_335 rfl he c1 d1 ?_
  refine wa_iload_n dJ0_getBytes_840e7_4 rfl ?_
  refine wa_icmp_ne 28 dJ0_getBytes_840e7_5 rfl (fun c5 => absurd rfl c5) (fun c5 => ?_)
  refine wa_aload_n dJ0_getBytes_840e7_8 rfl ?_
  refine wa_getf 0 dJ0_getBytes_840e7_9 fl_J0_9 c1 c2 (by omega) d1 he rfl ?_
  refine wa_iconst (x := 0) dJ0_getBytes_840e7_12 (by decide) ?_
  refine wa_aload_n dJ0_getBytes_840e7_13 rfl ?_
  refine wa_iload_n dJ0_getBytes_840e7_14 rfl ?_
  refine wa_iload_n dJ0_getBytes_840e7_15 rfl ?_
  refine wa_ishl dJ0_getBytes_840e7_16 ?_
  rw [shl0]
  refine wa_aload_n dJ0_getBytes_840e7_17 rfl ?_
  refine wa_getf 0 dJ0_getBytes_840e7_18 fl_J0_9 c1 c2 (by omega) d1 he rfl ?_
  refine wa_alen (t := 1) (len := len) dJ0_getBytes_840e7_21 (by decide) d2 hve rfl ?_
  rw [show Int32.ofNat len = nI len from rfl]
  obtain ⟨-, -, j0, hj0, ea, el, ef⟩ := hX0
  have e9 : v = ab_CB + (2 * j0 + 1) := by
    have k9 := he
    rw [ea, hp_kc, show ab_kc (2 * j0) = .inr (9, [.ref (ab_CB + (2 * j0 + 1)), .int 0]) from by unfold ab_kc; rw [if_pos (by omega), if_pos (by omega)]] at k9
    cases k9
    rfl
  rw [e9]
  refine wa_copyK (i0 := 2 * j0 + 1) (sp := 0) (dp := m) (len := len) dJ0_getBytes_840e7_22 lk_J0_212 ⟨Or.inl (by omega), by unfold ab_NK; omega⟩ (show ab_kc (2 * j0 + 1) = .inl (1, len, .inl fs) by rw [el, ef]; unfold ab_kc; rw [if_pos (by omega), if_neg (by omega), show (2 * j0 + 1) / 2 = j0 by omega]) h.1.2.1 ((hp_lx S h.1.1 (by have := h.1.2; omega)).trans h.2.1) rfl (nI_toInt (by omega)) (nI_toInt (by omega)) (by omega) hc (fun i hi => (fits_b (by rw [Nat.zero_add]; exact h6 i hi)).1) (by simp [ab_rm]) ?_
  refine wa_goto 43 dJ0_getBytes_840e7_25 rfl ?_
  exact wa_return dJ0_getBytes_840e7_43 ⟨by simp, by simp, rfl, rfl, rfl, rfl⟩
theorem sb_inflateNo {n a len : Nat} {S : SS} {fs : Nat → Int32} (hn : 269 ≤ n) (hX : STX n S a len fs) : AM yJ5_inflateIfNeededFor_a7421 cJ5_inflateIfNeededFor_a7421 2 none [] 2 0 0 [.ref 267, .ref a] n (Hp S) (PVh n (Hp S)) := by
  intro has
  change WA RJ5 cJ5_inflateIfNeededFor_a7421 2 [] _ _ 0 0 0 [some (.ref 267), some (.ref a)] [] n _
  have hX0 := hX
  obtain ⟨h2, h6, -⟩ := hX
  obtain ⟨hsl, ci, NN, v, tl, ⟨c1, c2, c3⟩, ⟨d1, he⟩, d2, hve⟩ := hX0.str
  refine wa_gets dJ5_inflateIfNeededFor_a7421_0 (v := .int 1) List.mem_cons_self fl_J5_18 trivial ?_
  refine wa_if_eq 21 dJ5_inflateIfNeededFor_a7421_3 rfl (fun c3 => absurd c3 (by decide)) (fun c3 => ?_)
  refine wa_aload_n dJ5_inflateIfNeededFor_a7421_6 rfl ?_
  refine g_SB hn 1 dJ5_inflateIfNeededFor_a7421_7 fl_J5_22 (by decide) rfl ?_
  refine wa_aload_n dJ5_inflateIfNeededFor_a7421_10 rfl ?_
  refine c_VAh dJ5_inflateIfNeededFor_a7421_11 (am_scoder hX0.str) lk_J5_40 rfl he c1 d1 ?_
  refine wa_icmp_eq 21 dJ5_inflateIfNeededFor_a7421_14 rfl (fun c14 => ?_) (fun c14 => absurd rfl c14)
  exact wa_return dJ5_inflateIfNeededFor_a7421_21 ⟨by simp, by simp, rfl, rfl, rfl, rfl⟩
theorem sb_putStringAt {n m0 m j a len : Nat} {S : SS} {f fs : Nat → Int32} (h : SBI n S m0 j f) (hX : STX n S a len fs) (hc : m + len ≤ cpS j) (hn : 269 ≤ n) : AM yJ5_putStringAt_47b60 cJ5_putStringAt_47b60 3 none [] 3 0 0 [.ref 267, .int (nI m), .ref a] n (Hp S) (PVh n (ab_up (Hp S) (sbr S) (.inl (1, cpS j, .inl (va_cpy fs f 0 m len))))) := by
  intro has
  change WA RJ5 cJ5_putStringAt_47b60 3 [] _ _ 0 0 0 [some (.ref 267), some (.int (nI m)), some (.ref a)] [] n _
  have hX0 := hX
  obtain ⟨h2, h6, -⟩ := hX
  obtain ⟨hsl, ci, NN, v, tl, ⟨c1, c2, c3⟩, ⟨d1, he⟩, d2, hve⟩ := hX0.str
  refine wa_aload_n dJ5_putStringAt_47b60_0 rfl ?_
  refine wa_aload_n dJ5_putStringAt_47b60_1 rfl ?_
  refine wa_callU (As := [.ref a]) dJ5_putStringAt_47b60_2 lk_J5_397 (sb_inflateNo hn hX0) (fun E n' h' q => by cases q.1) rfl (isO_SB _ _ _) rfl (Or.inl (ltS hn)) (by exact Nat.le_of_ble_eq_true rfl) (by unfold ab_fit ab_rm; refine ⟨?_, ?_, ?_, ?_⟩ <;> simp <;> omega) (by exact Nat.le_of_ble_eq_true rfl) (fun ro n' h' hq _ => ?_)
  obtain ⟨q1, q2, q3⟩ := hq
  rw [q2, q3]
  cases q1
  refine wa_aload_n dJ5_putStringAt_47b60_5 rfl ?_
  refine wa_aload_n dJ5_putStringAt_47b60_6 rfl ?_
  refine g_SB hn 0 dJ5_putStringAt_47b60_7 fl_J5_15 (by decide) rfl ?_
  refine wa_iload_n dJ5_putStringAt_47b60_10 rfl ?_
  refine wa_aload_n dJ5_putStringAt_47b60_11 rfl ?_
  refine g_SB hn 1 dJ5_putStringAt_47b60_12 fl_J5_22 (by decide) rfl ?_
  refine wa_callV dJ5_putStringAt_47b60_15 lk_J5_399 (js_getBytes h hX0 hc) rfl he c1 d1 (by exact Nat.le_of_ble_eq_true rfl) (by unfold ab_fit ab_rm; refine ⟨?_, ?_, ?_, ?_⟩ <;> simp <;> omega) (by exact Nat.le_of_ble_eq_true rfl) (fun ro n' h' hq _ => ?_) (fun E n' h' q _ => by cases q.1)
  obtain ⟨q1, q2, q3⟩ := hq
  rw [q2, q3]
  cases q1
  exact wa_return dJ5_putStringAt_47b60_18 ⟨by simp, by simp, rfl, rfl, rfl, rfl⟩
/-- what an appended String leaves -/
def APS (n : Nat) (S : SS) (m j : Nat) (f : Nat → Int32) (len : Nat) (fs : Nat → Int32) (n' : Nat) (S' : SS) : Prop := n' = n + grw j (m + len) ∧ FRb n S S' ∧ ∃ f', SBI n' S' (m + len) (j + grw j (m + len)) f' ∧ (∀ i, i < m → f' i = f i) ∧ ∀ i, i < len → f' (m + i) = fs i
theorem lo_cpy {f fs : Nat → Int32} {m len : Nat} (h : ∀ i, 0 ≤ (f i).toInt ∧ (f i).toInt < 128) (hs : ∀ i, i < len → 0 ≤ (fs i).toInt ∧ (fs i).toInt < 128) : ∀ i, 0 ≤ (va_cpy fs f 0 m len i).toInt ∧ (va_cpy fs f 0 m len i).toInt < 128 := fun i => by
  unfold va_cpy
  by_cases hi : m ≤ i ∧ i < m + len
  · rw [if_pos hi]
    exact hs _ (by omega)
  · rw [if_neg hi]
    exact h i
theorem sb_appendS5 {n m j a len : Nat} {S : SS} {f fs : Nat → Int32} (hn : 269 ≤ n) (h : SBI n S m j f) (hX : STX n S a len fs) (hj7 : j ≤ 6) (hn1 : n + 1 < ab_CB) : AM yJ5_append_cf1ce cJ5_append_cf1ce 3 (some (.object "java/lang/AbstractStringBuilder")) [] 4 (grw j (m + len)) (grs j (m + len)) [.ref 267, .ref a] n (Hp S) (fun r n' h' => r = .inl (some (.ref 267)) ∧ ∃ S', h' = Hp S' ∧ APS n S m j f len fs n' S') := by
  intro has
  change WA RJ5 cJ5_append_cf1ce 3 [] _ _ 0 0 0 [some (.ref 267), some (.ref a), none] [] n _
  have hX0 := hX
  obtain ⟨h2, h6, -⟩ := hX
  obtain ⟨hsl, ci, NN, v, tl, ⟨c1, c2, c3⟩, ⟨d1, he⟩, d2, hve⟩ := hX0.str
  have e3 := h.2.2.1
  have hj := cpS_le (j := j) (by have := h.2.2.2.1.2; omega)
  have hm := h.2.2.2.1.1
  obtain ⟨hs, h16⟩ := cpS_s j
  refine wa_aload_n dJ5_append_cf1ce_0 rfl ?_
  refine wa_ifnonnull 9 dJ5_append_cf1ce_1 rfl ?_
  refine wa_aload_n dJ5_append_cf1ce_9 rfl ?_
  refine c_VAh dJ5_append_cf1ce_10 (am_slen hX0.str) lk_J5_32 rfl he c1 d1 ?_
  refine wa_istore_n dJ5_append_cf1ce_13 rfl ?_
  refine wa_aload_n dJ5_append_cf1ce_14 rfl ?_
  refine wa_aload_n dJ5_append_cf1ce_15 rfl ?_
  refine g_SB hn 3 dJ5_append_cf1ce_16 fl_J5_79 (by decide) (v := .int (nI m)) (congrArg (fun x => some (Value.int x)) e3) ?_
  refine wa_iload_n dJ5_append_cf1ce_19 rfl ?_
  refine wa_iadd dJ5_append_cf1ce_20 ?_
  rw [nI_addS]
  refine wa_callU (As := [.int (nI (m + len))]) dJ5_append_cf1ce_21 lk_J5_100 (sb_ensure hn h (by omega) hj7 hn1) (fun E n' h' q => by cases q.1) rfl (isO_SB _ _ _) rfl (Or.inl (ltS hn)) (by exact Nat.le_of_ble_eq_true rfl) (by unfold ab_fit ab_rm; refine ⟨?_, ?_, ?_, ?_⟩ <;> simp <;> omega) (by exact Nat.le_of_ble_eq_true rfl) (fun ro n' h' hq _ => ?_)
  obtain ⟨q1, S1, q2, q3, q4, q5, ⟨f1, k1, q6⟩, q7⟩ := hq
  subst q3
  rw [q2]
  cases q1
  have hn' : 269 ≤ n + grw j (m + len) := by omega
  have e31 := k1.2.2.1
  have hX1 : STX (n + grw j (m + len)) S1 a len fs := hX0.fr
  refine wa_aload_n dJ5_append_cf1ce_24 rfl ?_
  refine wa_aload_n dJ5_append_cf1ce_25 rfl ?_
  refine g_SB hn' 3 dJ5_append_cf1ce_26 fl_J5_79 (by decide) (v := .int (nI m)) (congrArg (fun x => some (Value.int x)) e31) ?_
  refine wa_aload_n dJ5_append_cf1ce_29 rfl ?_
  refine wa_callU (As := [.int (nI m), .ref a]) dJ5_append_cf1ce_30 lk_J5_208 (sb_putStringAt k1 hX1 q7 hn') (fun E n' h' q => by cases q.1) rfl (isO_SB _ _ _) rfl (Or.inl (ltS hn')) (by exact Nat.le_of_ble_eq_true rfl) (by unfold ab_fit ab_rm; refine ⟨?_, ?_, ?_, ?_⟩ <;> simp <;> omega) (by exact Nat.le_of_ble_eq_true rfl) (fun ro n' h' hq _ => ?_)
  obtain ⟨z1, z2, z3⟩ := hq
  rw [z2, z3]
  cases z1
  rw [hp_slx k1.1.1 (by have := k1.1.2; omega)]
  refine wa_aload_n dJ5_append_cf1ce_33 rfl ?_
  refine wa_dup dJ5_append_cf1ce_34 rfl ?_
  refine g_SB hn' 3 dJ5_append_cf1ce_35 fl_J5_79 (by decide) (v := .int (nI m)) (congrArg (fun x => some (Value.int x)) e31) ?_
  refine wa_iload_n dJ5_append_cf1ce_38 rfl ?_
  refine wa_iadd dJ5_append_cf1ce_39 ?_
  rw [nI_addS]
  refine p_SB hn' 3 dJ5_append_cf1ce_40 fl_J5_79 (by decide) rfl rfl rfl rfl (fun _ _ _ => rfl) (Nat.le_of_ble_eq_true rfl) ?_
  refine wa_aload_n dJ5_append_cf1ce_43 rfl ?_
  exact wa_areturn dJ5_append_cf1ce_44 ⟨by simp, by simp, ⟨_, rfl, Or.inl ⟨_, rfl⟩⟩, rfl, _, rfl, rfl, ⟨⟨q4.1.1, q4.1.2.1, q4.1.2.2.1, q4.1.2.2.2.1, q4.1.2.2.2.2.1, fun k hk hs => (if_neg (fun z => by have := q4.1.2.2.2.2.1; omega)).trans (q4.1.2.2.2.2.2 k hk hs)⟩, fun a ha => (ss_o (sl S1 (fun k => if k = sbr S1 then .inl (1, cpS (j + grw j (m + len)), .inl (va_cpy fs f1 0 m len)) else ltc S1 k)) _ _ ha).trans (q4.2.1 a ha), q4.2.2⟩, va_cpy fs f1 0 m len, ⟨k1.1, if_pos rfl, ss_e (sl S1 (fun k => if k = sbr S1 then .inl (1, cpS (j + grw j (m + len)), .inl (va_cpy fs f1 0 m len)) else ltc S1 k)) 267 3 (nI (m + len)), ⟨q7, k1.2.2.2.1.2⟩, lo_cpy k1.2.2.2.2 h6⟩, fun i hi => (if_neg (by omega)).trans (q6 i hi), fun i hi => (if_pos (by omega)).trans (by rw [Nat.zero_add, show m + i - m = i by omega])⟩
theorem sb_appendS {n m j a len : Nat} {S : SS} {f fs : Nat → Int32} (hn : 269 ≤ n) (h : SBI n S m j f) (hX : STX n S a len fs) (hj7 : j ≤ 6) (hn1 : n + 1 < ab_CB) : AM yJ4_append_15ec4 cJ4_append_15ec4 2 (some (.object "java/lang/StringBuilder")) [] 5 (grw j (m + len)) (grs j (m + len)) [.ref 267, .ref a] n (Hp S) (fun r n' h' => r = .inl (some (.ref 267)) ∧ ∃ S', h' = Hp S' ∧ APS n S m j f len fs n' S') := by
  intro has
  change WA RJ4 cJ4_append_15ec4 2 [] _ _ 0 0 0 [some (.ref 267), some (.ref a)] [] n _
  refine wa_aload_n dJ4_append_15ec4_0 rfl ?_
  refine wa_aload_n dJ4_append_15ec4_1 rfl ?_
  refine wa_callSU (As := [.ref a]) dJ4_append_15ec4_2 lk_J4_29_s (sb_appendS5 hn h hX hj7 hn1) (fun E n' h' q => by cases q.1) rfl (isO_SB _ _ _) rfl (Or.inl (ltS hn)) (by exact Nat.le_of_ble_eq_true rfl) (by unfold ab_fit ab_rm; refine ⟨?_, ?_, ?_, ?_⟩ <;> simp <;> omega) (by exact Nat.le_of_ble_eq_true rfl) (fun ro n' h' hq _ => ?_)
  obtain ⟨q1, S1, q2, q3⟩ := hq
  cases q1
  rw [q2]
  refine wa_pop dJ4_append_15ec4_5 rfl ?_
  refine wa_aload_n dJ4_append_15ec4_6 rfl ?_
  exact wa_areturn dJ4_append_15ec4_7 ⟨by simp, by simp, ⟨_, rfl, Or.inl ⟨_, rfl⟩⟩, rfl, S1, rfl, q3⟩

