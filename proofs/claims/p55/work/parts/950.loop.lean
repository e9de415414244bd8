/-! THE LAW: its loop. Written by program (wip/p55/gen/m950.py) but for the heads. -/
abbrev LX (L : Nat) (xs : Nat → Int32) (Q : ab_Q) (k z pc : Nat) (ls : List (Option Value)) (st : List Value) (n : Nat) (h : ab_H) : Prop := WX (ab_XS L xs) RL cL_law 14 [] room_1 Q k z pc ls st n h
def lawQ : ab_Q := fun r k z _ _ => r = .inl (some (.int 1)) ∧ k ≤ 600086 ∧ z ≤ 7301442
theorem fitP {d maxL mc ms k z : Nat} (hd : d ≤ 11) (hm : maxL ≤ 20) (hk : k + mc ≤ 600086) (hz : z + ms ≤ 7301442) : ab_fit room_1 d maxL mc ms k z := ⟨by show d + 4 ≤ 15; omega, by show 8 + (maxL + 11) + (40 * d + 70) ≤ 592; omega, hk, hz⟩
theorem VS_sl {n n' c : Nat} {S : SS} {g : Nat → Int32} (h : VS n S g c) (hn : n ≤ n') (f : Nat → va_E) : VS n' (sl S f) g c :=
  ⟨Nat.le_trans h.1 hn, h.2.1.of (fun _ _ _ => rfl), h.2.2.1, h.2.2.2.1, h.2.2.2.2.1, h.2.2.2.2.2⟩
def ae (m : Nat) (F : Nat → Int32) : va_E := .inl (0, m, .inl F)
def se (S : SS) (a : Nat) (e : va_E) : SS := sl S (fun k => if k = a then e else ltc S k)
theorem se_e (S : SS) (a : Nat) (e : va_E) : ltc (se S a e) a = e := if_pos rfl
theorem se_o (S : SS) {a k : Nat} (e : va_E) (h : ¬ k = a) : ltc (se S a e) k = ltc S k := if_neg h
/-- the round's four arrays -/
def AR (n m : Nat) (S : SS) (F0 F1 F2 F3 : Nat → Int32) : Prop := ltc S n = ae m F0 ∧ ltc S (n + 1) = ae m F1 ∧ ltc S (n + 2) = ae m F2 ∧ ltc S (n + 3) = ae m F3
section LA
variable {Xx : ab_X} {own : String} {cc : ByteArray} {nL : Nat} {hh : List (Nat × Nat × Nat × Nat)} {R : Room} {Q : ab_Q} {k z pc : Nat} {ls : List (Option Value)} {st : List Value} {n a m i : Nat} {S : SS} {F : Nat → Int32} {x : Int32}
theorem w_ast (dd : decode cc pc = .ok (.iastore, 1)) (ha : 269 ≤ a) (ha2 : a < n) (hn : n ≤ ab_CB) (he : ltc S a = ae m F) (hi : i < m) (hm : m < 2 ^ 31) (K : WX Xx own cc nL hh R Q k z (pc + 1) ls st n (Hp (se S a (ae m (upd F i x))))) : WX Xx own cc nL hh R Q k z pc ls (.int x :: .int (nI i) :: .ref a :: st) n (Hp S) := by
  refine wa_iast (len := m) (j := i) (f := F) dd ha2 ((hp_lt S ha (by omega)).trans he) (nI_toInt (by omega)) hi ?_
  rw [hp_sl ha (by omega)]
  exact K
theorem w_ald (dd : decode cc pc = .ok (.iaload, 1)) (ha : 269 ≤ a) (ha2 : a < n) (hn : n ≤ ab_CB) (he : ltc S a = ae m F) (hi : i < m) (hm : m < 2 ^ 31) (K : WX Xx own cc nL hh R Q k z (pc + 1) ls (.int (F i) :: st) n (Hp S)) : WX Xx own cc nL hh R Q k z pc ls (.int (nI i) :: .ref a :: st) n (Hp S) :=
  wa_iald (len := m) (j := i) (f := F) dd (Or.inl ha2) ((hp_lt S ha (by omega)).trans he) (nI_toInt (by omega)) hi K
theorem w_newI (d : decode cc pc = .ok (.newarray .int, 2)) (hb : m ≤ 100) (hn : 269 ≤ n) (hn1 : n + 1 < ab_CB) (hcells : k + 1 ≤ R.cells) (hslots : z + m ≤ R.slots) (K : WX Xx own cc nL hh R Q (k + 1) (z + m) (pc + 2) ls (.ref n :: st) (n + 1) (Hp (se S n (ae m (fun _ => 0))))) : WX Xx own cc nL hh R Q k z pc ls (.int (nI m) :: st) n (Hp S) := by
  refine wa_newa (ty := .int) (t := 0) (len := m) (a0 := (m, .inl (fun _ => 0))) d wa_cls_int rfl rfl (by decide) (nI_toInt (by omega)) (fun _ => rfl) (fun _ => rfl) trivial (by show m * 4 ≤ _; omega) hn1 hcells hslots ?_
  rw [hp_sl hn (by omega)]
  exact K
end LA
section AR4
variable {n m i : Nat} {S : SS} {F0 F1 F2 F3 : Nat → Int32} {x : Int32}
theorem AR.s0 (h : AR n m S F0 F1 F2 F3) : AR n m (se S n (ae m (upd F0 i x))) (upd F0 i x) F1 F2 F3 := ⟨se_e _ _ _, (se_o _ _ (by omega)).trans h.2.1, (se_o _ _ (by omega)).trans h.2.2.1, (se_o _ _ (by omega)).trans h.2.2.2⟩
theorem AR.s1 (h : AR n m S F0 F1 F2 F3) : AR n m (se S (n + 1) (ae m (upd F1 i x))) F0 (upd F1 i x) F2 F3 := ⟨(se_o _ _ (by omega)).trans h.1, se_e _ _ _, (se_o _ _ (by omega)).trans h.2.2.1, (se_o _ _ (by omega)).trans h.2.2.2⟩
theorem AR.s2 (h : AR n m S F0 F1 F2 F3) : AR n m (se S (n + 2) (ae m (upd F2 i x))) F0 F1 (upd F2 i x) F3 := ⟨(se_o _ _ (by omega)).trans h.1, (se_o _ _ (by omega)).trans h.2.1, se_e _ _ _, (se_o _ _ (by omega)).trans h.2.2.2⟩
theorem AR.s3 (h : AR n m S F0 F1 F2 F3) : AR n m (se S (n + 3) (ae m (upd F3 i x))) F0 F1 F2 (upd F3 i x) := ⟨(se_o _ _ (by omega)).trans h.1, (se_o _ _ (by omega)).trans h.2.1, (se_o _ _ (by omega)).trans h.2.2.1, se_e _ _ _⟩
theorem AR.lt {S' : SS} (h : AR n m S F0 F1 F2 F3) (e : S'.2.2.2 = S.2.2.2) : AR n m S' F0 F1 F2 F3 := by
  have q : ltc S' = ltc S := congrArg (fun t => t.2.2.2.1) e
  unfold AR
  rw [q]
  exact h
end AR4
/-- the arrays tell of the first i rooms -/
def FL (g : Nat → Int32) (i : Nat) (F0 F1 F2 F3 : Nat → Int32) : Prop := ∀ j, j < i → F0 j = of g j 2 ∧ F1 j = of g j 12 ∧ F2 j = of g j 10 ∧ F3 j = of g j 1
theorem FL.up {g : Nat → Int32} {i : Nat} {F0 F1 F2 F3 : Nat → Int32} (h : FL g i F0 F1 F2 F3) : FL g (i + 1) (upd F0 i (of g i 2)) (upd F1 i (of g i 12)) (upd F2 i (of g i 10)) (upd F3 i (of g i 1)) := by
  intro j hj
  by_cases e : j = i
  · subst e
    exact ⟨upd_e, upd_e, upd_e, upd_e⟩
  · obtain ⟨a, b, c, d⟩ := h j (by omega)
    exact ⟨(upd_o e).trans a, (upd_o e).trans b, (upd_o e).trans c, (upd_o e).trans d⟩
theorem lp_fill {L k z n a m k0 c : Nat} {xs : Nat → Int32} {g : Nat → Int32} {e9 e10 e11 e12 e13 : Option Value} (ha : 269 ≤ a) (han : a + 4 ≤ n) (hnb : n ≤ ab_CB) (hm : m = rn g) (hT : (g 1).toInt ≤ 100000) (hk : k ≤ 600086) (hz : z ≤ 7301442)
    (hQ : ∀ S F0 F1 F2 F3, VS n S g c → AR a m S F0 F1 F2 F3 → FL g m F0 F1 F2 F3 → LX L xs lawQ k z 127 [some (.ref (ab_CB + 500000)), some (.ref 0), some (.int (nI k0)), some (.int (nI m)), some (.ref a), some (.ref (a + 1)), some (.ref (a + 2)), some (.ref (a + 3)), some (.int (nI m)), e9, e10, e11, e12, e13] [] n (Hp S)) :
    ∀ (q r : Nat) (S0 : SS) (F0 F1 F2 F3 : Nat → Int32), r + q = m → VS n S0 g c → AR a m S0 F0 F1 F2 F3 → FL g r F0 F1 F2 F3 → LX L xs lawQ k z 66 [some (.ref (ab_CB + 500000)), some (.ref 0), some (.int (nI k0)), some (.int (nI m)), some (.ref a), some (.ref (a + 1)), some (.ref (a + 2)), some (.ref (a + 3)), some (.int (nI r)), e9, e10, e11, e12, e13] [] n (Hp S0) := by
  intro q
  induction q with
  | zero =>
    intro r S0 F0 F1 F2 F3 hq hV hA hF
    have h6 := hV.g0.2
    have e : r = m := by omega
    subst e
    refine wa_iload dL_law_66 rfl ?_
    refine wa_iload_n dL_law_68 rfl ?_
    refine wa_icmp_ge 127 dL_law_69 rfl (fun _ => ?_) (fun z => absurd (nI_leN (Nat.le_refl _) (by omega)) z)
    exact hQ S0 _ _ _ _ hV hA hF
  | succ q ih =>
    intro r S0 F0 F1 F2 F3 hq hV hA hF
    have h6 := hV.g0.2
    have hr : r < rn g := by omega
    refine wa_iload dL_law_66 rfl ?_
    refine wa_iload_n dL_law_68 rfl ?_
    refine wa_icmp_ge 127 dL_law_69 rfl (fun z => absurd ((nI_leI (by omega) (by omega)).mp z) (by omega)) (fun _ => ?_)
    refine wa_aload dL_law_72 rfl ?_
    refine wa_iload dL_law_74 rfl ?_
    refine wa_aload_n dL_law_76 rfl ?_
    refine wa_iload dL_law_77 rfl ?_
    refine wa_iconst (x := 2) dL_law_79 (by decide) ?_
    refine c_VI (As := [.int (nI r), .int 2]) dL_law_80 (vr_room_0_2 hV.1 hV.2.1 hV.j.1 (by omega) hr) lk_L_177 rfl (isO_VR _ _ _) rfl (ltS hV.1) ?_ (hR := fitP (by decide) (by decide) (by omega) (by omega))
    refine w_ast dL_law_83 (by omega) (by omega) (by omega) hA.1 (show r < m by omega) (by omega) ?_
    have hV83 := VS_sl hV (Nat.le_refl _) (fun k => if k = a then ae m (upd F0 r (of g r 2)) else ltc S0 k)
    have hA83 := hA.s0 (i := r) (x := of g r 2)
    generalize hS83 : se S0 (a) (ae m (upd F0 r (of g r 2))) = S1 at hA83
    rw [show sl S0 (fun k => if k = a then ae m (upd F0 r (of g r 2)) else ltc S0 k) = S1 from hS83] at hV83
    refine wa_aload dL_law_84 rfl ?_
    refine wa_iload dL_law_86 rfl ?_
    refine wa_aload_n dL_law_88 rfl ?_
    refine wa_iload dL_law_89 rfl ?_
    refine wa_iconst (x := 0) dL_law_91 (by decide) ?_
    refine c_VI (v := of g r 12) (As := [.int (nI r), .int (nI 0)]) dL_law_92 (vr_count_0 (w := 0) hV83.1 hV83.2.1 hV83.j.1 (by omega) hr (by decide) (inrN (lo := 0) (hi := 5) (by decide) (by decide) (by decide))) lk_L_180 rfl (isO_VR _ _ _) rfl (ltS hV83.1) ?_ (hR := fitP (by decide) (by decide) (by omega) (by omega))
    refine w_ast dL_law_95 (by omega) (by omega) (by omega) hA83.2.1 (show r < m by omega) (by omega) ?_
    have hV95 := VS_sl hV83 (Nat.le_refl _) (fun k => if k = a + 1 then ae m (upd F1 r (of g r 12)) else ltc S1 k)
    have hA95 := hA83.s1 (i := r) (x := of g r 12)
    generalize hS95 : se S1 (a + 1) (ae m (upd F1 r (of g r 12))) = S2 at hA95
    rw [show sl S1 (fun k => if k = a + 1 then ae m (upd F1 r (of g r 12)) else ltc S1 k) = S2 from hS95] at hV95
    refine wa_aload dL_law_96 rfl ?_
    refine wa_iload dL_law_98 rfl ?_
    refine wa_aload_n dL_law_100 rfl ?_
    refine wa_iload dL_law_101 rfl ?_
    refine wa_bipush (x := 10) dL_law_103 (by decide) ?_
    refine c_VI (As := [.int (nI r), .int 10]) dL_law_105 (vr_room_0_10 hV95.1 hV95.2.1 hV95.j.1 (by omega) hr) lk_L_177 rfl (isO_VR _ _ _) rfl (ltS hV95.1) ?_ (hR := fitP (by decide) (by decide) (by omega) (by omega))
    refine w_ast dL_law_108 (by omega) (by omega) (by omega) hA95.2.2.1 (show r < m by omega) (by omega) ?_
    have hV108 := VS_sl hV95 (Nat.le_refl _) (fun k => if k = a + 2 then ae m (upd F2 r (of g r 10)) else ltc S2 k)
    have hA108 := hA95.s2 (i := r) (x := of g r 10)
    generalize hS108 : se S2 (a + 2) (ae m (upd F2 r (of g r 10))) = S3 at hA108
    rw [show sl S2 (fun k => if k = a + 2 then ae m (upd F2 r (of g r 10)) else ltc S2 k) = S3 from hS108] at hV108
    refine wa_aload dL_law_109 rfl ?_
    refine wa_iload dL_law_111 rfl ?_
    refine wa_aload_n dL_law_113 rfl ?_
    refine wa_iload dL_law_114 rfl ?_
    refine wa_iconst (x := 1) dL_law_116 (by decide) ?_
    refine c_VI (As := [.int (nI r), .int 1]) dL_law_117 (vr_room_0_1 hV108.1 hV108.2.1 hV108.j.1 (by omega) hr) lk_L_177 rfl (isO_VR _ _ _) rfl (ltS hV108.1) ?_ (hR := fitP (by decide) (by decide) (by omega) (by omega))
    refine w_ast dL_law_120 (by omega) (by omega) (by omega) hA108.2.2.2 (show r < m by omega) (by omega) ?_
    have hV120 := VS_sl hV108 (Nat.le_refl _) (fun k => if k = a + 3 then ae m (upd F3 r (of g r 1)) else ltc S3 k)
    have hA120 := hA108.s3 (i := r) (x := of g r 1)
    generalize hS120 : se S3 (a + 3) (ae m (upd F3 r (of g r 1))) = S4 at hA120
    rw [show sl S3 (fun k => if k = a + 3 then ae m (upd F3 r (of g r 1)) else ltc S3 k) = S4 from hS120] at hV120
    refine wa_iinc (y := 1) dL_law_121 rfl (by decide) rfl ?_
    refine wa_goto 66 dL_law_124 rfl ?_
    rw [show nI r + 1 = nI (r + 1) from nI_addS r 1]
    exact ih (r + 1) S4 _ _ _ _ (by omega) hV120 hA120 hF.up
theorem lp_check {L k z n a m k0 c D : Nat} {xs : Nat → Int32} {g g' F0 F1 F2 F3 : Nat → Int32} {v : Int32} {S : SS} (ha : 269 ≤ a) (han : a + 4 ≤ n) (hnb : n ≤ ab_CB) (hm : m = rn g) (hm2 : rn g' = rn g) (hT : (g' 1).toInt ≤ 100000) (hk : k ≤ 600086) (hz : z ≤ 7301442) (hD : D < 24)
    (hV : VS n S g' c) (hA : AR a m S F0 F1 F2 F3) (hF : FL g m F0 F1 F2 F3) (hC : ∀ r, r < rn g → ACr (nI D) g g' r) (hQ : ∀ e13, LX L xs lawQ k z 338 [some (.ref (ab_CB + 500000)), some (.ref 0), some (.int (nI k0)), some (.int (nI m)), some (.ref a), some (.ref (a + 1)), some (.ref (a + 2)), some (.ref (a + 3)), some (.int (g 1)), some (.int (nI D)), some (.int (v)), some (.int (sumN g' 12 m - sumN g 12 m)), some (.int (nI m)), e13] [] n (Hp S)) :
    ∀ (q r : Nat) (e13 : Option Value) (al : Int32), al = sumN g' 12 r - sumN g 12 r → r + q = m → LX L xs lawQ k z 166 [some (.ref (ab_CB + 500000)), some (.ref 0), some (.int (nI k0)), some (.int (nI m)), some (.ref a), some (.ref (a + 1)), some (.ref (a + 2)), some (.ref (a + 3)), some (.int (g 1)), some (.int (nI D)), some (.int (v)), some (.int (al)), some (.int (nI r)), e13] [] n (Hp S) := by
  have h6 := hV.g0.2
  intro q
  induction q with
  | zero =>
    intro r e13 al hal hq
    subst hal
    have e : r = m := by omega
    subst e
    refine wa_iload dL_law_166 rfl ?_
    refine wa_iload_n dL_law_168 rfl ?_
    refine wa_icmp_ge 338 dL_law_169 rfl (fun _ => ?_) (fun z => absurd (nI_leN (Nat.le_refl _) (by omega)) z)
    exact hQ _
  | succ q ih =>
    intro r e13 al hal hq
    subst hal
    have hr : r < rn g' := by omega
    refine wa_iload dL_law_166 rfl ?_
    refine wa_iload_n dL_law_168 rfl ?_
    refine wa_icmp_ge 338 dL_law_169 rfl (fun z => absurd ((nI_leI (by omega) (by omega)).mp z) (by omega)) (fun _ => ?_)
    refine wa_aload_n dL_law_172 rfl ?_
    refine wa_iload dL_law_173 rfl ?_
    refine wa_iconst (x := 0) dL_law_175 (by decide) ?_
    refine c_VI (v := of g' r 12) (As := [.int (nI r), .int (nI 0)]) dL_law_176 (vr_count_0 (w := 0) hV.1 hV.2.1 hV.j.1 (by omega) hr (by decide) (inrN (lo := 0) (hi := 5) (by decide) (by decide) (by decide))) lk_L_180 rfl (isO_VR _ _ _) rfl (ltS hV.1) ?_ (hR := fitP (by decide) (by decide) (by omega) (by omega))
    refine wa_aload dL_law_179 rfl ?_
    refine wa_iload dL_law_181 rfl ?_
    refine w_ald dL_law_183 (by omega) (by omega) (by omega) hA.2.1 (show r < m by omega) (by omega) ?_
    rw [(hF r (by omega)).2.1]
    refine wa_isub dL_law_184 ?_
    refine wa_istore dL_law_185 rfl ?_
    refine wa_iload dL_law_187 rfl ?_
    refine wa_iload dL_law_189 rfl ?_
    refine wa_iadd dL_law_191 ?_
    rw [show sumN g' 12 r - sumN g 12 r + (of g' r 12 - of g r 12) = sumN g' 12 (r + 1) - sumN g 12 (r + 1) from add4 _ _ _ _]
    refine wa_istore dL_law_192 rfl ?_
    obtain ⟨c1, c2, c3, c4, c5⟩ := hC r (by omega)
    have eD : ∀ x : Nat, x < 2 ^ 31 → (nI D = nI x ↔ D = x) := fun x hx => ⟨fun z => nI_inj (by omega) hx z, fun z => by rw [z]⟩
    have t332 : LX L xs lawQ k z 332 [some (.ref (ab_CB + 500000)), some (.ref 0), some (.int (nI k0)), some (.int (nI m)), some (.ref a), some (.ref (a + 1)), some (.ref (a + 2)), some (.ref (a + 3)), some (.int (g 1)), some (.int (nI D)), some (.int (v)), some (.int (sumN g' 12 (r + 1) - sumN g 12 (r + 1))), some (.int (nI r)), some (.int (of g' r 12 - of g r 12))] [] n (Hp S) := by
      refine wa_iinc (y := 1) dL_law_332 rfl (by decide) rfl ?_
      refine wa_goto 166 dL_law_335 rfl ?_
      rw [show nI r + 1 = nI (r + 1) from nI_addS r 1]
      exact ih (r + 1) _ _ rfl (by omega)
    have t294 : LX L xs lawQ k z 294 [some (.ref (ab_CB + 500000)), some (.ref 0), some (.int (nI k0)), some (.int (nI m)), some (.ref a), some (.ref (a + 1)), some (.ref (a + 2)), some (.ref (a + 3)), some (.int (g 1)), some (.int (nI D)), some (.int (v)), some (.int (sumN g' 12 (r + 1) - sumN g 12 (r + 1))), some (.int (nI r)), some (.int (of g' r 12 - of g r 12))] [] n (Hp S) := by
      refine wa_aload_n dL_law_294 rfl ?_
      refine wa_iconst (x := 1) dL_law_295 (by decide) ?_
      refine c_VI (As := [.int 1]) dL_law_296 (vr_property_0_1 hV.1 hV.2.1 hV.j.1) lk_L_115 rfl (isO_VR _ _ _) rfl (ltS hV.1) ?_ (hR := fitP (by decide) (by decide) (by omega) (by omega))
      refine wa_iload dL_law_299 rfl ?_
      refine wa_iconst (x := 1) dL_law_301 (by decide) ?_
      refine wa_iadd dL_law_302 ?_
      by_cases e1 : g' 1 = g 1 + 1
      · refine wa_icmp_ne 332 dL_law_303 rfl (fun z => absurd e1 z) (fun _ => ?_)
        refine wa_aload_n dL_law_306 rfl ?_
        refine wa_iload dL_law_307 rfl ?_
        refine wa_bipush (x := 10) dL_law_309 (by decide) ?_
        refine c_VI (As := [.int (nI r), .int 10]) dL_law_311 (vr_room_0_10 hV.1 hV.2.1 hV.j.1 (by omega) hr) lk_L_177 rfl (isO_VR _ _ _) rfl (ltS hV.1) ?_ (hR := fitP (by decide) (by decide) (by omega) (by omega))
        refine wa_aload dL_law_314 rfl ?_
        refine wa_iload dL_law_316 rfl ?_
        refine w_ald dL_law_318 (by omega) (by omega) (by omega) hA.2.2.1 (show r < m by omega) (by omega) ?_
        rw [(hF r (by omega)).2.2.1]
        refine wa_aload_n dL_law_319 rfl ?_
        refine wa_iload dL_law_320 rfl ?_
        refine wa_iconst (x := 1) dL_law_322 (by decide) ?_
        refine c_VI (As := [.int (nI r), .int 1]) dL_law_323 (vr_room_0_1 hV.1 hV.2.1 hV.j.1 (by omega) hr) lk_L_177 rfl (isO_VR _ _ _) rfl (ltS hV.1) ?_ (hR := fitP (by decide) (by decide) (by omega) (by omega))
        refine wa_iadd dL_law_326 ?_
        refine wa_icmp_eq 332 dL_law_327 rfl (fun _ => ?_) (fun z => absurd (c5 e1) z)
        exact t332
      · refine wa_icmp_ne 332 dL_law_303 rfl (fun _ => ?_) (fun z => absurd z e1)
        exact t332
    have t263 : LX L xs lawQ k z 263 [some (.ref (ab_CB + 500000)), some (.ref 0), some (.int (nI k0)), some (.int (nI m)), some (.ref a), some (.ref (a + 1)), some (.ref (a + 2)), some (.ref (a + 3)), some (.int (g 1)), some (.int (nI D)), some (.int (v)), some (.int (sumN g' 12 (r + 1) - sumN g 12 (r + 1))), some (.int (nI r)), some (.int (of g' r 12 - of g r 12))] [] n (Hp S) := by
      refine wa_aload_n dL_law_263 rfl ?_
      refine wa_iconst (x := 1) dL_law_264 (by decide) ?_
      refine c_VI (As := [.int 1]) dL_law_265 (vr_property_0_1 hV.1 hV.2.1 hV.j.1) lk_L_115 rfl (isO_VR _ _ _) rfl (ltS hV.1) ?_ (hR := fitP (by decide) (by decide) (by omega) (by omega))
      refine wa_iload dL_law_268 rfl ?_
      by_cases e1 : g' 1 = g 1
      · refine wa_icmp_ne 294 dL_law_270 rfl (fun z => absurd e1 z) (fun _ => ?_)
        refine wa_iload dL_law_273 rfl ?_
        refine wa_if_ne 330 dL_law_275 rfl (fun c275 => absurd (c4 e1).1 c275) (fun c275 => ?_)
        refine wa_aload_n dL_law_278 rfl ?_
        refine wa_iload dL_law_279 rfl ?_
        refine wa_bipush (x := 10) dL_law_281 (by decide) ?_
        refine c_VI (As := [.int (nI r), .int 10]) dL_law_283 (vr_room_0_10 hV.1 hV.2.1 hV.j.1 (by omega) hr) lk_L_177 rfl (isO_VR _ _ _) rfl (ltS hV.1) ?_ (hR := fitP (by decide) (by decide) (by omega) (by omega))
        refine wa_aload dL_law_286 rfl ?_
        refine wa_iload dL_law_288 rfl ?_
        refine w_ald dL_law_290 (by omega) (by omega) (by omega) hA.2.2.1 (show r < m by omega) (by omega) ?_
        rw [(hF r (by omega)).2.2.1]
        refine wa_icmp_ne 330 dL_law_291 rfl (fun c291 => absurd (c4 e1).2 c291) (fun c291 => ?_)
        exact t294
      · refine wa_icmp_ne 294 dL_law_270 rfl (fun _ => ?_) (fun z => absurd z e1)
        exact t294
    have t224 : LX L xs lawQ k z 224 [some (.ref (ab_CB + 500000)), some (.ref 0), some (.int (nI k0)), some (.int (nI m)), some (.ref a), some (.ref (a + 1)), some (.ref (a + 2)), some (.ref (a + 3)), some (.int (g 1)), some (.int (nI D)), some (.int (v)), some (.int (sumN g' 12 (r + 1) - sumN g 12 (r + 1))), some (.int (nI r)), some (.int (of g' r 12 - of g r 12))] [] n (Hp S) := by
      refine wa_iload dL_law_224 rfl ?_
      refine wa_bipush (x := 20) dL_law_226 (by decide) ?_
      by_cases d20 : nI D = 20
      · refine wa_icmp_eq 263 dL_law_228 rfl (fun _ => ?_) (fun z => absurd d20 z)
        exact t263
      · refine wa_icmp_eq 263 dL_law_228 rfl (fun z => absurd z d20) (fun _ => ?_)
        refine wa_aload dL_law_231 rfl ?_
        refine wa_iload dL_law_233 rfl ?_
        refine w_ald dL_law_235 (by omega) (by omega) (by omega) hA.1 (show r < m by omega) (by omega) ?_
        rw [(hF r (by omega)).1]
        by_cases b0 : of g r 2 = 0
        · refine wa_if_ne 263 dL_law_236 rfl (fun z => absurd b0 z) (fun _ => ?_)
          refine wa_iload dL_law_239 rfl ?_
          refine wa_bipush (x := 19) dL_law_241 (by decide) ?_
          by_cases d19 : nI D = 19
          · refine wa_icmp_eq 263 dL_law_243 rfl (fun _ => ?_) (fun z => absurd d19 z)
            exact t263
          · refine wa_icmp_eq 263 dL_law_243 rfl (fun z => absurd z d19) (fun _ => ?_)
            refine wa_aload_n dL_law_246 rfl ?_
            refine wa_iload dL_law_247 rfl ?_
            refine wa_iconst (x := 1) dL_law_249 (by decide) ?_
            refine c_VI (As := [.int (nI r), .int 1]) dL_law_250 (vr_room_0_1 hV.1 hV.2.1 hV.j.1 (by omega) hr) lk_L_177 rfl (isO_VR _ _ _) rfl (ltS hV.1) ?_ (hR := fitP (by decide) (by decide) (by omega) (by omega))
            refine wa_aload dL_law_253 rfl ?_
            refine wa_iload dL_law_255 rfl ?_
            refine w_ald dL_law_257 (by omega) (by omega) (by omega) hA.2.2.2 (show r < m by omega) (by omega) ?_
            rw [(hF r (by omega)).2.2.2]
            refine wa_icmp_eq 263 dL_law_258 rfl (fun _ => ?_) (fun z => absurd (c3 d20 d19 b0) z)
            exact t263
        · refine wa_if_ne 263 dL_law_236 rfl (fun _ => ?_) (fun z => absurd z b0)
          exact t263
    refine wa_iload dL_law_194 rfl ?_
    refine wa_if_lt 261 dL_law_196 rfl (fun z => absurd z (fun y => by rw [Int32.lt_iff_toInt_lt, Int32.toInt_zero] at y; omega)) (fun _ => ?_)
    refine wa_iload dL_law_199 rfl ?_
    refine wa_bipush (x := 19) dL_law_201 (by decide) ?_
    by_cases d19 : nI D = 19
    · refine wa_icmp_eq 224 dL_law_203 rfl (fun _ => ?_) (fun z => absurd d19 z)
      exact t224
    · refine wa_icmp_eq 224 dL_law_203 rfl (fun z => absurd z d19) (fun _ => ?_)
      refine wa_aload_n dL_law_206 rfl ?_
      refine wa_iload dL_law_207 rfl ?_
      refine wa_iconst (x := 2) dL_law_209 (by decide) ?_
      refine c_VI (As := [.int (nI r), .int 2]) dL_law_210 (vr_room_0_2 hV.1 hV.2.1 hV.j.1 (by omega) hr) lk_L_177 rfl (isO_VR _ _ _) rfl (ltS hV.1) ?_ (hR := fitP (by decide) (by decide) (by omega) (by omega))
      refine wa_aload dL_law_213 rfl ?_
      refine wa_iload dL_law_215 rfl ?_
      refine w_ald dL_law_217 (by omega) (by omega) (by omega) hA.1 (show r < m by omega) (by omega) ?_
      rw [(hF r (by omega)).1]
      refine wa_iload dL_law_218 rfl ?_
      refine wa_isub dL_law_220 ?_
      refine wa_icmp_ne 261 dL_law_221 rfl (fun z => absurd (c2 d19) z) (fun _ => ?_)
      exact t224
theorem law_round (F : FLW) {L k z n k0 c : Nat} {xs : Nat → Int32} {g : Nat → Int32} {S : SS} {e3 e4 e5 e6 e7 e8 e9 e10 e11 e12 e13 : Option Value} (hL : L < 2 ^ 31) (hV : VS n S g c) (hr0 : 0 < rn g) (hT : (g 1).toInt ≤ 10000) (hk0 : k0 < 900) (hn : n ≤ 1000) (hk : k ≤ 1000) (hz : z ≤ 100000)
    (hQ : ∀ k' z' n' S' g' c' e3 e4 e5 e6 e7 e8 e9 e10 e11 e12 e13, VS n' S' g' c' → 0 < rn g' → (g' 1).toInt ≤ (g 1).toInt + 60 → n' ≤ n + 4 → k' ≤ k + 5 → z' ≤ z + 30 → LX L xs lawQ k' z' 28 [some (.ref (ab_CB + 500000)), some (.ref 0), some (.int (nI (k0 + 3))), e3, e4, e5, e6, e7, e8, e9, e10, e11, e12, e13] [] n' (Hp S')) : LX L xs lawQ k z 37 [some (.ref (ab_CB + 500000)), some (.ref 0), some (.int (nI k0)), e3, e4, e5, e6, e7, e8, e9, e10, e11, e12, e13] [] n (Hp S) := by
  have h6 := hV.g0.2
  have hV0 := hV.1
  refine wa_aload_n dL_law_37 rfl ?_
  refine wa_iconst (x := 0) dL_law_38 (by decide) ?_
  refine c_VI (As := [.int 0]) dL_law_39 (vr_property_0_0 hV.1 hV.2.1 hV.j.1) lk_L_115 rfl (isO_VR _ _ _) rfl (ltS hV.1) ?_ (hR := fitP (by decide) (by decide) (by omega) (by omega))
  rw [hV.g0.1]
  refine wa_istore_n dL_law_42 rfl ?_
  refine wa_iload_n dL_law_43 rfl ?_
  refine w_newI dL_law_44 (by omega) (by omega) (by show _ < 1000000; omega) (by show _ ≤ 600086; omega) (by show _ ≤ 7301442; omega) ?_
  refine wa_astore dL_law_46 rfl ?_
  refine wa_iload_n dL_law_48 rfl ?_
  refine w_newI dL_law_49 (by omega) (by omega) (by show _ < 1000000; omega) (by show _ ≤ 600086; omega) (by show _ ≤ 7301442; omega) ?_
  refine wa_astore dL_law_51 rfl ?_
  refine wa_iload_n dL_law_53 rfl ?_
  refine w_newI dL_law_54 (by omega) (by omega) (by show _ < 1000000; omega) (by show _ ≤ 600086; omega) (by show _ ≤ 7301442; omega) ?_
  refine wa_astore dL_law_56 rfl ?_
  refine wa_iload_n dL_law_58 rfl ?_
  refine w_newI dL_law_59 (by omega) (by omega) (by show _ < 1000000; omega) (by show _ ≤ 600086; omega) (by show _ ≤ 7301442; omega) ?_
  refine wa_astore dL_law_61 rfl ?_
  refine wa_iconst (x := 0) dL_law_63 (by decide) ?_
  refine wa_istore dL_law_64 rfl ?_
  have hVa := VS_sl (n' := n + 1 + 1 + 1 + 1) (VS_sl (n' := n + 1 + 1 + 1) (VS_sl (n' := n + 1 + 1) (VS_sl (n' := n + 1) hV (by omega) (fun k => if k = n then ae (rn g) (fun _ => 0) else ltc S k)) (by omega) (fun k => if k = n + 1 then ae (rn g) (fun _ => 0) else ltc (se S n (ae (rn g) (fun _ => 0))) k)) (by omega) (fun k => if k = n + 1 + 1 then ae (rn g) (fun _ => 0) else ltc (se (se S n (ae (rn g) (fun _ => 0))) (n + 1) (ae (rn g) (fun _ => 0))) k)) (by omega) (fun k => if k = n + 1 + 1 + 1 then ae (rn g) (fun _ => 0) else ltc (se (se (se S n (ae (rn g) (fun _ => 0))) (n + 1) (ae (rn g) (fun _ => 0))) (n + 1 + 1) (ae (rn g) (fun _ => 0))) k)
  have hAa : AR n (rn g) (se (se (se (se S n (ae (rn g) (fun _ => 0))) (n + 1) (ae (rn g) (fun _ => 0))) (n + 1 + 1) (ae (rn g) (fun _ => 0))) (n + 1 + 1 + 1) (ae (rn g) (fun _ => 0))) (fun _ => 0) (fun _ => 0) (fun _ => 0) (fun _ => 0) :=
    ⟨(se_o _ _ (by omega)).trans ((se_o _ _ (by omega)).trans ((se_o _ _ (by omega)).trans (se_e _ _ _))), (se_o _ _ (by omega)).trans ((se_o _ _ (by omega)).trans (se_e _ _ _)), (se_o _ _ (by omega)).trans (se_e _ _ _), se_e _ _ _⟩
  refine lp_fill (a := n) (m := rn g) (k0 := k0) hV0 (by omega) (by show _ ≤ 1000000; omega) rfl (by omega) (by omega) (by omega) (fun S2 F0 F1 F2 F3 hV2 hA2 hF2 => ?_) (rn g) 0 _ _ _ _ _ (Nat.zero_add _) hVa hAa (fun j hj => absurd hj (Nat.not_lt_zero _))
  refine wa_aload_n dL_law_127 rfl ?_
  refine wa_iconst (x := 1) dL_law_128 (by decide) ?_
  refine c_VI (As := [.int 1]) dL_law_129 (vr_property_0_1 hV2.1 hV2.2.1 hV2.j.1) lk_L_115 rfl (isO_VR _ _ _) rfl (ltS hV2.1) ?_ (hR := fitP (by decide) (by decide) (by omega) (by omega))
  refine wa_istore dL_law_132 rfl ?_
  refine wa_aload_n dL_law_134 rfl ?_
  refine wa_iload_n dL_law_135 rfl ?_
  refine wa_bipush (x := 24) dL_law_136 (by decide) ?_
  refine x_SI (As := [.ref (ab_CB + 500000), .int (nI (k0)), .int (nI (24))]) dL_law_138 (ab_XS_M _ _) (yl_draw (k := k0) (m := 24) hL (by omega) (by decide) (by decide)) lk_L_40 rfl ?_ (hR := fitP (by decide) (by decide) (by omega) (by omega))
  have hD := dv_lt (L := L) (xs := xs) k0 24 (by decide)
  refine wa_istore dL_law_141 rfl ?_
  refine wa_aload_n dL_law_143 rfl ?_
  refine wa_aload_n dL_law_144 rfl ?_
  refine wa_iload_n dL_law_145 rfl ?_
  refine wx_callSX (As := [.ref 0, .ref (ab_CB + 500000), .int (nI k0)]) dL_law_146 lk_L_229 (ab_XS_M _ _) (yl_act hL (by omega) hV2 hr0 (by omega)) rfl (by exact Nat.le_of_ble_eq_true rfl) (fitP (by decide) (by decide) (by omega) (by omega)) (by exact Nat.le_of_ble_eq_true rfl) (fun ro n' h' q _ => ?_) (fun E n' h' q _ => by obtain ⟨-, v, S', g', c', e1, -⟩ := q; cases e1)
  obtain ⟨rfl, v, S3, g', c3, e1, rfl, hV3, hs3, hx⟩ := q
  cases e1
  obtain ⟨x1, x2, x3, x4, x5⟩ := hx
  refine wa_istore dL_law_149 rfl ?_
  refine wa_aload_n dL_law_151 rfl ?_
  refine c_SI (As := [.ref 0]) dL_law_152 (yl_stands F hV3 (by omega)) lk_L_225 rfl ?_ (hR := fitP (by decide) (by decide) (by omega) (by omega))
  refine wa_if_ne 160 dL_law_155 rfl (fun _ => ?_) (fun z => absurd z (by decide))
  refine wa_iconst (x := 0) dL_law_160 (by decide) ?_
  refine wa_istore dL_law_161 rfl ?_
  refine wa_iconst (x := 0) dL_law_163 (by decide) ?_
  refine wa_istore dL_law_164 rfl ?_
  refine lp_check (k := k + 5) (z := z + rn g + rn g + rn g + rn g + 6) (a := n) (m := rn g) (k0 := k0) (g := g) (g' := g') (v := v) hV0 (by omega) (by show _ ≤ 1000000; omega) rfl x1 (by omega) (by omega) (by omega) hD hV3 (hA2.lt hs3) hF2 x4 (fun e13 => ?_) (rn g) 0 _ 0 (show (0 : Int32) = 0 - 0 by decide) (Nat.zero_add _)
  refine wa_aload_n dL_law_338 rfl ?_
  refine wa_iconst (x := 1) dL_law_339 (by decide) ?_
  refine c_VI (As := [.int 1]) dL_law_340 (vr_property_0_1 hV3.1 hV3.2.1 hV3.j.1) lk_L_115 rfl (isO_VR _ _ _) rfl (ltS hV3.1) ?_ (hR := fitP (by decide) (by decide) (by omega) (by omega))
  refine wa_iload dL_law_343 rfl ?_
  have tail : ∀ e3 e4 e5 e6 e7 e8 e9 e10 e11 e12 e13, LX L xs lawQ (k + 5) (z + rn g + rn g + rn g + rn g + 6) 357 [some (.ref (ab_CB + 500000)), some (.ref 0), some (.int (nI k0)), e3, e4, e5, e6, e7, e8, e9, e10, e11, e12, e13] [] (n + 1 + 1 + 1 + 1) (Hp S3) := by
    intro e3 e4 e5 e6 e7 e8 e9 e10 e11 e12 e13
    refine wa_iinc (y := 3) dL_law_357 rfl (by decide) rfl ?_
    refine wa_goto 28 dL_law_360 rfl ?_
    rw [show nI k0 + 3 = nI (k0 + 3) from nI_addS k0 3]
    exact hQ _ _ _ S3 g' c3 _ _ _ _ _ _ _ _ _ _ _ hV3 (by omega) (by omega) (by omega) (by omega) (by omega)
  by_cases e1 : g 1 < g' 1
  · refine wa_icmp_le 357 dL_law_345 rfl (fun z => absurd e1 (Int32.not_lt.mpr z)) (fun _ => ?_)
    refine wa_iload dL_law_348 rfl ?_
    refine wa_iload dL_law_350 rfl ?_
    refine wa_icmp_eq 357 dL_law_352 rfl (fun _ => ?_) (fun z => absurd (x5 e1) z)
    exact tail _ _ _ _ _ _ _ _ _ _ _
  · refine wa_icmp_le 357 dL_law_345 rfl (fun _ => ?_) (fun z => absurd (Int32.not_lt.mp e1) z)
    exact tail _ _ _ _ _ _ _ _ _ _ _
theorem law_loop (F : FLW) {L : Nat} {xs : Nat → Int32} (hL : L < 2 ^ 31) : ∀ (q t : Nat), t + q = 56 → ∀ (k z n c : Nat) (S : SS) (g : Nat → Int32) e3 e4 e5 e6 e7 e8 e9 e10 e11 e12 e13, VS n S g c → 0 < rn g → (g 1).toInt ≤ 60 * t → n ≤ 330 + 4 * t → k ≤ 400 + 5 * t → z ≤ 20000 + 30 * t → LX L xs lawQ k z 28 [some (.ref (ab_CB + 500000)), some (.ref 0), some (.int (nI (60 + 3 * t))), e3, e4, e5, e6, e7, e8, e9, e10, e11, e12, e13] [] n (Hp S) := by
  intro q
  induction q with
  | zero =>
    intro t ht k z n c S g e3 e4 e5 e6 e7 e8 e9 e10 e11 e12 e13 hV hr0 hT hn hk hz
    have e : t = 56 := by omega
    subst e
    refine wa_iload_n dL_law_28 rfl ?_
    refine wa_iconst (x := 2) dL_law_29 (by decide) ?_
    refine wa_iadd dL_law_30 ?_
    refine wa_sipush (x := 230) dL_law_31 (by decide) ?_
    refine wa_icmp_ge 363 dL_law_34 rfl (fun _ => ?_) (fun z => absurd (by decide) z)
    refine wa_iconst (x := 1) dL_law_363 (by decide) ?_
    exact wa_ireturn dL_law_364 ⟨rfl, by omega, by omega⟩
  | succ q ih =>
    intro t ht k z n c S g e3 e4 e5 e6 e7 e8 e9 e10 e11 e12 e13 hV hr0 hT hn hk hz
    refine wa_iload_n dL_law_28 rfl ?_
    refine wa_iconst (x := 2) dL_law_29 (by decide) ?_
    refine wa_iadd dL_law_30 ?_
    rw [show nI (60 + 3 * t) + 2 = nI (60 + 3 * t + 2) from nI_addS _ 2]
    refine wa_sipush (x := 230) dL_law_31 (by decide) ?_
    refine wa_icmp_ge 363 dL_law_34 rfl (fun z => absurd ((nI_leI (a := 230) (by decide) (by omega)).mp z) (by omega)) (fun _ => ?_)
    refine law_round F hL hV hr0 (by omega) (by omega) (by omega) (by omega) (by omega) (fun k' z' n' S' g' c' e3 e4 e5 e6 e7 e8 e9 e10 e11 e12 e13 hV' hr' hT' hn' hk' hz' => ?_)
    exact ih (t + 1) (by omega) k' z' n' c' S' g' e3 e4 e5 e6 e7 e8 e9 e10 e11 e12 e13 hV' hr' (by omega) (by omega) (by omega) (by omega)
