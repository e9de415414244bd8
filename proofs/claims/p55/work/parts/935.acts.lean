/-! THE LAW: cleared, planned, act. Written by program (wip/p55/gen/m935.py) but for the heads. -/
theorem VS_chg {n c : Nat} {S S1 S' : SS} {g g' : Nat → Int32} (hV : VS n S g c) (rm : REM S S1 g c) (hh : HH S' 34 g' (fun _ => True)) (fr : FRh 34 S1 S') (hJ : JJ g') : VS n S' g' (c5 c + 1) ∧ S'.2.2.2 = S.2.2.2 := by
  obtain ⟨h1, h2, h3, h4, h5, h6⟩ := hV
  have e : S'.2.2 = (pf c S.2.2.1, S.2.2.2) := (congrArg (fun t => t.2) fr.1).trans rm.1
  refine ⟨⟨h1, hh, hJ, ?_, c5_lt h5, ?_⟩, congrArg (fun t => t.2) e⟩
  · rw [show S'.2.2.1 = pf c S.2.2.1 from congrArg (fun t => t.1) e]
    exact h4.pfP c
  · rw [fr.2 0 (by decide)]
    exact rm.2.1
/-- what an act leaves -/
def ACP (n : Nat) (S : SS) (g : Nat → Int32) (kd : Int32) : ab_R → Nat → ab_H → Prop := fun r n' h' => n' = n ∧ ∃ v S' g' c', r = .inl (some (.int v)) ∧ h' = Hp S' ∧ VS n S' g' c' ∧ S'.2.2.2 = S.2.2.2 ∧ ACT kd v g g'
section CH
variable {Xx : ab_X} {own : String} {cc : ByteArray} {nL : Nat} {hh : List (Nat × Nat × Nat × Nat)} {R : Room} {Q : ab_Q} {k z pc : Nat} {ls : List (Option Value)} {st stk : List Value} {n c : Nat} {S : SS} {g g' : Nat → Int32} {v0 : Int32}
variable {index : Nat} {y : MethodName} {cc2 : ByteArray} {maxL2 : Nat} {ret2 : Option FieldType} {d mc ms : Nat} {As : List Value} {T0 : u_T} {N : Nat}
theorem c_chg (dd : decode cc pc = .ok (.invokevirtual index, 3)) (hA : AM y cc2 maxL2 ret2 [] d mc ms (.ref 0 :: As) n (Hp S) (CHG n S g c g' v0)) (lk : ab_lkV own index y cc2 maxL2 ret2 As.length) (hc : ab_cl[0]? = some (y.cls, T0, N)) (hV : VS n S g c) (hJ : JJ g') (hst : stk = As.reverse ++ .ref 0 :: st)
    (K : ∀ S', VS n S' g' (c5 c + 1) → S'.2.2.2 = S.2.2.2 → WX Xx own cc nL hh R Q (k + mc) (z + ms) (pc + 3) ls (.int v0 :: st) n (Hp S')) (hlen : (ab_el (.ref 0 :: As)).length ≤ maxL2 := by exact Nat.le_of_ble_eq_true rfl) (hR : ab_fit R d maxL2 mc ms k z := by unfold ab_fit ab_rm; refine ⟨?_, ?_, ?_, ?_⟩ <;> simp <;> omega) (hrest : (st.map fun v => v.category).sum ≤ 8 := by exact Nat.le_of_ble_eq_true rfl) : WX Xx own cc nL hh R Q k z pc ls stk n (Hp S) :=
  wa_callV dd lk hA hst (isO_VR _ _ _) hc (Or.inl (ltS hV.1)) hlen hR hrest (fun ro n' h' hq _ => by
    obtain ⟨rfl, v, S', e1, rfl, S1, rm, hh', fr, rfl⟩ := hq
    cases e1
    exact K S' (VS_chg hV rm hh' fr hJ).1 (VS_chg hV rm hh' fr hJ).2) (fun E n' h' hq _ => by
    obtain ⟨-, v, S', e1, -⟩ := hq
    cases e1)
end CH
theorem inrN {a lo hi : Nat} (h1 : lo ≤ a) (h2 : a ≤ hi) (h : hi < 2 ^ 31) : inr (nI a) (nI lo) (nI hi) := ⟨nI_leN h1 (by omega), nI_leN h2 h⟩
theorem VS.j {n c : Nat} {S : SS} {g : Nat → Int32} (h : VS n S g c) : JJ g := h.2.2.1
/-- a changing method's answer at once -/
def QA (n : Nat) (S : SS) (g : Nat → Int32) (kd : Int32) : ab_Q := fun r k z n' h' => k ≤ 1 ∧ z ≤ 6 ∧ ab_rok (some .int) r ∧ ACP n S g kd r n' h'
theorem ACP.mk {n c' : Nat} {S S' : SS} {g g' : Nat → Int32} {kd v : Int32} (hV : VS n S' g' c') (hs : S'.2.2.2 = S.2.2.2) (hA : ACT kd v g g') {k z : Nat} (hk : k ≤ 1) (hz : z ≤ 6) : QA n S g kd (.inl (some (.int v))) k z n (Hp S') :=
  ⟨hk, hz, ⟨_, rfl, rfl⟩, rfl, v, S', g', c', rfl, rfl, hV, hs, hA⟩
theorem VS.g0 {n c : Nat} {S : SS} {g : Nat → Int32} (h : VS n S g c) : g 0 = nI (rn g) ∧ rn g ≤ 6 := VG_rn h.2.2.1.1.1
theorem VS.g3 {n c : Nat} {S : SS} {g : Nat → Int32} (h : VS n S g c) : g 3 = nI (pn g) ∧ pn g ≤ 20 := VG_pn h.2.2.1.1.1
theorem VS.g1 {n c : Nat} {S : SS} {g : Nat → Int32} (h : VS n S g c) : 0 ≤ (g 1).toInt := h.2.2.1.1.1.1.1
theorem yl_cleared {n c i t : Nat} {S : SS} {g : Nat → Int32} {kd : Int32} (hV : VS n S g c) (hi : i < rn g) (ht : t < 48) : AM yL_cleared cL_cleared 4 (some .int) [(0, 6, 7, 122)] 4 1 6 [.ref 0, .int (nI i), .int (nI t)] n (Hp S) (ACP n S g kd) := by
  intro has
  change WA RL cL_cleared 4 [(0, 6, 7, 122)] _ _ 0 0 0 [some (.ref 0), some (.int (nI i)), some (.int (nI t)), none] [] n _
  refine wa_aload_n dL_cleared_0 rfl ?_
  refine wa_iload_n dL_cleared_1 rfl ?_
  refine wa_iload_n dL_cleared_2 rfl ?_
  by_cases h0 : pg g i t = 0
  · refine c_VX (As := [.int (nI i), .int (nI t)]) dL_cleared_3 (vr_clearProgram_3 hV.1 hV.2.1 hV.j.1 hi ht (inrN (lo := 0) (hi := 47) (by omega) (by omega) (by decide)) h0) lk_L_119 rfl (isO_VR _ _ _) rfl (ltS hV.1) ?_
    refine wt_catch_n [] (0, 6, 7, 122) [] rfl (fun y hy => absurd hy List.not_mem_nil) (by decide) (by decide) wk_L_122 (by decide) dL_cleared_7 rfl (by decide) ?_
    refine wa_sipush (x := (-999)) dL_cleared_8 (by decide) ?_
    exact wa_ireturn dL_cleared_11 (ACP.mk hV rfl (ACT_none hV.j) (by decide) (by decide))
  · have hx : ACT kd (nI (cnt (pg (pt g i (18 + t) 0) i) 48)) g (pt g i (18 + t) 0) := AC_prog hV.j ht (Or.inl rfl)
    refine c_chg (As := [.int (nI i), .int (nI t)]) dL_cleared_3 (vr_clearProgram_0 hV.1 hV.2.1 hV.j.1 hV.2.2.2.1 hV.2.2.2.2.1 hV.2.2.2.2.2 hi ht (inrN (lo := 0) (hi := 47) (by omega) (by omega) (by decide)) h0) lk_L_119 rfl hV hx.2.1 rfl (fun S' hV' hs => ?_)
    exact wa_ireturn dL_cleared_6 (ACP.mk hV' hs hx (by decide) (by decide))
theorem yl_planned {n c i : Nat} {S : SS} {g : Nat → Int32} {kd t kk : Int32} (hV : VS n S g c) (hi : i < rn g) (ht : inr t (g 1 + 1) (g 1 + 9999)) (ht2 : (g 1).toInt < t.toInt ∧ t.toInt ≤ 300000) (hk : inr kk 0 3) (hk2 : 0 ≤ kk.toInt ∧ kk.toInt < 4) : AM yL_planned cL_planned 5 (some .int) [(0, 7, 8, 128)] 4 1 6 [.ref 0, .int t, .int (nI i), .int kk] n (Hp S) (ACP n S g kd) := by
  intro has
  change WA RL cL_planned 5 [(0, 7, 8, 128)] _ _ 0 0 0 [some (.ref 0), some (.int t), some (.int (nI i)), some (.int kk), none] [] n _
  obtain ⟨g0, g6⟩ := hV.g0
  obtain ⟨g3, g20⟩ := hV.g3
  have hi0 : 0 ≤ nI i ∧ nI i < g 0 := ⟨nI_0le (by omega), by rw [g0]; exact (nI_ltI (by omega) (by omega)).mpr hi⟩
  refine wa_aload_n dL_planned_0 rfl ?_
  refine wa_iload_n dL_planned_1 rfl ?_
  refine wa_iload_n dL_planned_2 rfl ?_
  refine wa_iload_n dL_planned_3 rfl ?_
  by_cases h0 : pn g < 20
  · have h4 : g 3 < 20 := by rw [g3]; exact (nI_ltI (b := 20) (by omega) (by decide)).mpr h0
    have hx : ACT kd (nI (ipos g t (pn g))) g (f_plan t (nI i) kk g) := ACT_plan hV.j h0 hi ht2 hk2
    refine c_chg (As := [.int t, .int (nI i), .int kk]) dL_planned_4 (vr_plan_0 hV.1 hV.2.1 hV.j.1 hV.2.2.2.1 hV.2.2.2.2.1 hV.2.2.2.2.2 t (nI i) kk hi0 ht hk h4) lk_L_124 rfl hV hx.2.1 rfl (fun S' hV' hs => ?_)
    exact wa_ireturn dL_planned_7 (ACP.mk hV' hs hx (by decide) (by decide))
  · have h4 : ¬ g 3 < 20 := by rw [g3]; exact fun z => h0 ((nI_ltI (b := 20) (by omega) (by decide)).mp z)
    refine c_VX (As := [.int t, .int (nI i), .int kk]) dL_planned_4 (vr_plan_4 hV.1 hV.2.1 hV.j.1 t (nI i) kk hi0 ht hk h4) lk_L_124 rfl (isO_VR _ _ _) rfl (ltS hV.1) ?_
    refine wt_catch [] (0, 7, 8, 128) [] rfl (fun y hy => absurd hy List.not_mem_nil) (by decide) (by decide) wk_L_128 (by decide) dL_planned_8 rfl (by decide) ?_
    refine wa_sipush (x := (-999)) dL_planned_10 (by decide) ?_
    exact wa_ireturn dL_planned_13 (ACP.mk hV rfl (ACT_none hV.j) (by decide) (by decide))
theorem ac_136 {n c L k N M i : Nat} {xs : Nat → Int32} {S : SS} {g : Nat → Int32} {kd : Int32} (hV : VS n S g c) (hi : i < rn g) (hN : N < 100000) (hM : M < 100000) (hT : (g 1).toInt ≤ 100000) : WX (ab_XS L xs) RL cL_act 6 [] (ab_rm 9 1 6) (QA n S g kd) 0 0 136 [some (.ref 0), some (.ref (ab_CB + 500000)), some (.int (nI k)), some (.int (nI N)), some (.int (nI M)), some (.int (nI i))] [] n (Hp S) := by
  refine wa_aload_n dL_act_136 rfl ?_
  refine wa_iconst (x := 1) dL_act_137 (by decide) ?_
  refine wa_iload_n dL_act_138 rfl ?_
  refine wa_iconst (x := 5) dL_act_139 (by decide) ?_
  refine wa_irem dL_act_140 (by decide) ?_
  rw [show nI (N) - nI (N) / (5 : Int32) * (5 : Int32) = nI (N % 5) from nI_rem (a := N) (b := 5) (by omega) (by omega) (by omega)]
  refine wa_iadd dL_act_141 ?_
  rw [show (1 : Int32) + nI (N % 5) = nI (1 + N % 5) from nI_addS (1) (N % 5)]
  have hx : ACT kd _ g _ := ACT_ticks (N := 1 + N % 5) hV.j (by omega) (by omega) hT
  refine c_chg (As := [.int (nI (1 + N % 5))]) dL_act_142 (vr_tick_0 (N := 1 + N % 5) hV.1 hV.2.1 hV.j.1 hV.2.2.2.1 hV.2.2.2.2.1 hV.2.2.2.2.2 (by omega) (inrN (lo := 1) (hi := 200) (by omega) (by omega) (by decide)) (by omega)) lk_L_131 rfl hV hx.2.1 rfl (fun S' hV' hs => ?_)
  exact wa_ireturn dL_act_145 (ACP.mk hV' hs hx (by decide) (by decide))
theorem ac_146 {n c L k N M i : Nat} {xs : Nat → Int32} {S : SS} {g : Nat → Int32} {kd : Int32} (hV : VS n S g c) (hi : i < rn g) (hN : N < 100000) (hM : M < 100000) (hT : (g 1).toInt ≤ 100000) : WX (ab_XS L xs) RL cL_act 6 [] (ab_rm 9 1 6) (QA n S g kd) 0 0 146 [some (.ref 0), some (.ref (ab_CB + 500000)), some (.int (nI k)), some (.int (nI N)), some (.int (nI M)), some (.int (nI i))] [] n (Hp S) := by
  refine wa_aload_n dL_act_146 rfl ?_
  refine wa_iconst (x := 1) dL_act_147 (by decide) ?_
  refine wa_iload_n dL_act_148 rfl ?_
  refine wa_bipush (x := 60) dL_act_149 (by decide) ?_
  refine wa_irem dL_act_151 (by decide) ?_
  rw [show nI (N) - nI (N) / (60 : Int32) * (60 : Int32) = nI (N % 60) from nI_rem (a := N) (b := 60) (by omega) (by omega) (by omega)]
  refine wa_iadd dL_act_152 ?_
  rw [show (1 : Int32) + nI (N % 60) = nI (1 + N % 60) from nI_addS (1) (N % 60)]
  have hx : ACT kd _ g _ := ACT_ticks (N := 1 + N % 60) hV.j (by omega) (by omega) hT
  refine c_chg (As := [.int (nI (1 + N % 60))]) dL_act_153 (vr_tick_0 (N := 1 + N % 60) hV.1 hV.2.1 hV.j.1 hV.2.2.2.1 hV.2.2.2.2.1 hV.2.2.2.2.2 (by omega) (inrN (lo := 1) (hi := 200) (by omega) (by omega) (by decide)) (by omega)) lk_L_131 rfl hV hx.2.1 rfl (fun S' hV' hs => ?_)
  exact wa_ireturn dL_act_156 (ACP.mk hV' hs hx (by decide) (by decide))
theorem ac_389 {n c L k N M i : Nat} {xs : Nat → Int32} {S : SS} {g : Nat → Int32} {kd : Int32} (hV : VS n S g c) (hi : i < rn g) (hN : N < 100000) (hM : M < 100000) (hT : (g 1).toInt ≤ 100000) : WX (ab_XS L xs) RL cL_act 6 [] (ab_rm 9 1 6) (QA n S g kd) 0 0 389 [some (.ref 0), some (.ref (ab_CB + 500000)), some (.int (nI k)), some (.int (nI N)), some (.int (nI M)), some (.int (nI i))] [] n (Hp S) := by
  refine wa_aload_n dL_act_389 rfl ?_
  refine wa_iconst (x := 1) dL_act_390 (by decide) ?_
  refine wa_iload_n dL_act_391 rfl ?_
  refine wa_iconst (x := 3) dL_act_392 (by decide) ?_
  refine wa_irem dL_act_393 (by decide) ?_
  rw [show nI (N) - nI (N) / (3 : Int32) * (3 : Int32) = nI (N % 3) from nI_rem (a := N) (b := 3) (by omega) (by omega) (by omega)]
  refine wa_iadd dL_act_394 ?_
  rw [show (1 : Int32) + nI (N % 3) = nI (1 + N % 3) from nI_addS (1) (N % 3)]
  have hx : ACT kd _ g _ := ACT_ticks (N := 1 + N % 3) hV.j (by omega) (by omega) hT
  refine c_chg (As := [.int (nI (1 + N % 3))]) dL_act_395 (vr_tick_0 (N := 1 + N % 3) hV.1 hV.2.1 hV.j.1 hV.2.2.2.1 hV.2.2.2.2.1 hV.2.2.2.2.2 (by omega) (inrN (lo := 1) (hi := 200) (by omega) (by omega) (by decide)) (by omega)) lk_L_131 rfl hV hx.2.1 rfl (fun S' hV' hs => ?_)
  exact wa_ireturn dL_act_398 (ACP.mk hV' hs hx (by decide) (by decide))
theorem ac_157 {n c L k N M i : Nat} {xs : Nat → Int32} {S : SS} {g : Nat → Int32} {kd : Int32} (hV : VS n S g c) (hi : i < rn g) (hN : N < 100000) (hM : M < 100000) (hT : (g 1).toInt ≤ 100000) : WX (ab_XS L xs) RL cL_act 6 [] (ab_rm 9 1 6) (QA n S g kd) 0 0 157 [some (.ref 0), some (.ref (ab_CB + 500000)), some (.int (nI k)), some (.int (nI N)), some (.int (nI M)), some (.int (nI i))] [] n (Hp S) := by
  refine wa_aload_n dL_act_157 rfl ?_
  refine wa_iload dL_act_158 rfl ?_
  refine wa_iload dL_act_160 rfl ?_
  refine wa_bipush (x := 48) dL_act_162 (by decide) ?_
  refine wa_irem dL_act_164 (by decide) ?_
  rw [show nI (M) - nI (M) / (48 : Int32) * (48 : Int32) = nI (M % 48) from nI_rem (a := M) (b := 48) (by omega) (by omega) (by omega)]
  refine wa_bipush (x := 50) dL_act_165 (by decide) ?_
  refine wa_iload dL_act_167 rfl ?_
  refine wa_bipush (x := 48) dL_act_169 (by decide) ?_
  refine wa_idiv dL_act_171 (by decide) ?_
  rw [show nI (M) / (48 : Int32) = nI (M / 48) from nI_div (a := M) (b := 48) (by omega) (by omega) (by omega)]
  refine wa_sipush (x := 251) dL_act_172 (by decide) ?_
  refine wa_irem dL_act_175 (by decide) ?_
  rw [show nI (M / 48) - nI (M / 48) / (251 : Int32) * (251 : Int32) = nI ((M / 48) % 251) from nI_rem (a := M / 48) (b := 251) (by omega) (by omega) (by omega)]
  refine wa_iadd dL_act_176 ?_
  rw [show (50 : Int32) + nI ((M / 48) % 251) = nI (50 + (M / 48) % 251) from nI_addS (50) ((M / 48) % 251)]
  have hx : ∀ y : Int32, ACT kd y g _ := fun y => AC_prog (r := i) (t := M % 48) (x := nI (50 + (M / 48) % 251)) hV.j (by omega) (Or.inr (by rw [nI_toInt (by omega)]; omega))
  refine c_chg (As := [.int (nI i), .int (nI (M % 48)), .int (nI (50 + (M / 48) % 251))]) dL_act_177 (vr_setProgram_0 (t := M % 48) hV.1 hV.2.1 hV.j.1 hV.2.2.2.1 hV.2.2.2.2.1 hV.2.2.2.2.2 hi (by omega) (inrN (lo := 0) (hi := 47) (by omega) (by omega) (by decide)) (nI (50 + (M / 48) % 251)) (inrN (lo := 50) (hi := 300) (by omega) (by omega) (by decide))) lk_L_134 rfl hV (hx 0).2.1 rfl (fun S' hV' hs => ?_)
  exact wa_ireturn dL_act_180 (ACP.mk hV' hs (hx _) (by decide) (by decide))
theorem ac_193 {n c L k N M i : Nat} {xs : Nat → Int32} {S : SS} {g : Nat → Int32} {kd : Int32} (hV : VS n S g c) (hi : i < rn g) (hN : N < 100000) (hM : M < 100000) (hT : (g 1).toInt ≤ 100000) : WX (ab_XS L xs) RL cL_act 6 [] (ab_rm 9 1 6) (QA n S g kd) 0 0 193 [some (.ref 0), some (.ref (ab_CB + 500000)), some (.int (nI k)), some (.int (nI N)), some (.int (nI M)), some (.int (nI i))] [] n (Hp S) := by
  refine wa_aload_n dL_act_193 rfl ?_
  refine wa_iload dL_act_194 rfl ?_
  refine wa_bipush (x := 50) dL_act_196 (by decide) ?_
  refine wa_iload dL_act_198 rfl ?_
  refine wa_sipush (x := 251) dL_act_200 (by decide) ?_
  refine wa_irem dL_act_203 (by decide) ?_
  rw [show nI (M) - nI (M) / (251 : Int32) * (251 : Int32) = nI (M % 251) from nI_rem (a := M) (b := 251) (by omega) (by omega) (by omega)]
  refine wa_iadd dL_act_204 ?_
  rw [show (50 : Int32) + nI (M % 251) = nI (50 + M % 251) from nI_addS (50) (M % 251)]
  refine wa_iload dL_act_205 rfl ?_
  refine wa_sipush (x := 251) dL_act_207 (by decide) ?_
  refine wa_idiv dL_act_210 (by decide) ?_
  rw [show nI (M) / (251 : Int32) = nI (M / 251) from nI_div (a := M) (b := 251) (by omega) (by omega) (by omega)]
  refine wa_bipush (x := 9) dL_act_211 (by decide) ?_
  refine wa_irem dL_act_213 (by decide) ?_
  rw [show nI (M / 251) - nI (M / 251) / (9 : Int32) * (9 : Int32) = nI ((M / 251) % 9) from nI_rem (a := M / 251) (b := 9) (by omega) (by omega) (by omega)]
  have hx : ∀ y : Int32, ACT kd y g _ := fun y => AC_override (r := i) (x := nI (50 + M % 251)) (y := nI ((M / 251) % 9)) hV.j (by rw [nI_toInt (by omega)]; omega) (by rw [nI_toInt (by omega)]; omega)
  refine c_chg (As := [.int (nI i), .int (nI (50 + M % 251)), .int (nI ((M / 251) % 9))]) dL_act_214 (vr_override_0 hV.1 hV.2.1 hV.j.1 hV.2.2.2.1 hV.2.2.2.2.1 hV.2.2.2.2.2 hi (nI (50 + M % 251)) (nI ((M / 251) % 9)) (inrN (lo := 50) (hi := 300) (by omega) (by omega) (by decide)) (inrN (lo := 0) (hi := 500) (by omega) (by omega) (by decide))) lk_L_141 rfl hV (hx 0).2.1 rfl (fun S' hV' hs => ?_)
  exact wa_ireturn dL_act_217 (ACP.mk hV' hs (hx _) (by decide) (by decide))
theorem ac_336 {n c L k N M i : Nat} {xs : Nat → Int32} {S : SS} {g : Nat → Int32} {kd : Int32} (hV : VS n S g c) (hi : i < rn g) (hN : N < 100000) (hM : M < 100000) (hT : (g 1).toInt ≤ 100000) : WX (ab_XS L xs) RL cL_act 6 [] (ab_rm 9 1 6) (QA n S g kd) 0 0 336 [some (.ref 0), some (.ref (ab_CB + 500000)), some (.int (nI k)), some (.int (nI N)), some (.int (nI M)), some (.int (nI i))] [] n (Hp S) := by
  refine wa_aload_n dL_act_336 rfl ?_
  refine wa_iload dL_act_337 rfl ?_
  refine wa_bipush (x := 10) dL_act_339 (by decide) ?_
  refine wa_irem dL_act_341 (by decide) ?_
  rw [show nI (M) - nI (M) / (10 : Int32) * (10 : Int32) = nI (M % 10) from nI_rem (a := M) (b := 10) (by omega) (by omega) (by omega)]
  refine wa_iconst (x := 1) dL_act_342 (by decide) ?_
  refine wa_iload_n dL_act_343 rfl ?_
  refine wa_bipush (x := 20) dL_act_344 (by decide) ?_
  refine wa_irem dL_act_346 (by decide) ?_
  rw [show nI (N) - nI (N) / (20 : Int32) * (20 : Int32) = nI (N % 20) from nI_rem (a := N) (b := 20) (by omega) (by omega) (by omega)]
  refine wa_iadd dL_act_347 ?_
  rw [show (1 : Int32) + nI (N % 20) = nI (1 + N % 20) from nI_addS (1) (N % 20)]
  refine wa_iconst (x := 1) dL_act_348 (by decide) ?_
  refine wa_iload dL_act_349 rfl ?_
  refine wa_bipush (x := 10) dL_act_351 (by decide) ?_
  refine wa_idiv dL_act_353 (by decide) ?_
  rw [show nI (M) / (10 : Int32) = nI (M / 10) from nI_div (a := M) (b := 10) (by omega) (by omega) (by omega)]
  refine wa_bipush (x := 60) dL_act_354 (by decide) ?_
  refine wa_irem dL_act_356 (by decide) ?_
  rw [show nI (M / 10) - nI (M / 10) / (60 : Int32) * (60 : Int32) = nI ((M / 10) % 60) from nI_rem (a := M / 10) (b := 60) (by omega) (by omega) (by omega)]
  refine wa_iadd dL_act_357 ?_
  rw [show (1 : Int32) + nI ((M / 10) % 60) = nI (1 + (M / 10) % 60) from nI_addS (1) ((M / 10) % 60)]
  have hx : ∀ y : Int32, ACT kd y g _ := fun y => AC_control (a := nI (M % 10)) (b := nI (1 + N % 20)) (d := nI (1 + (M / 10) % 60)) hV.j (by rw [nI_toInt (by omega)]; omega) (by rw [nI_toInt (by omega)]; omega) (by rw [nI_toInt (by omega)]; omega)
  refine c_chg (As := [.int (nI (M % 10)), .int (nI (1 + N % 20)), .int (nI (1 + (M / 10) % 60))]) dL_act_358 (vr_setControl_0 hV.1 hV.2.1 hV.j.1 hV.2.2.2.1 hV.2.2.2.2.1 hV.2.2.2.2.2 (nI (M % 10)) (nI (1 + N % 20)) (nI (1 + (M / 10) % 60)) (inrN (lo := 0) (hi := 50) (by omega) (by omega) (by decide)) (inrN (lo := 1) (hi := 50) (by omega) (by omega) (by decide)) (inrN (lo := 1) (hi := 100) (by omega) (by omega) (by decide))) lk_L_162 rfl hV (hx 0).2.1 rfl (fun S' hV' hs => ?_)
  exact wa_ireturn dL_act_361 (ACP.mk hV' hs (hx _) (by decide) (by decide))
theorem ac_362 {n c L k N M i : Nat} {xs : Nat → Int32} {S : SS} {g : Nat → Int32} {kd : Int32} (hV : VS n S g c) (hi : i < rn g) (hN : N < 100000) (hM : M < 100000) (hT : (g 1).toInt ≤ 100000) (hk : kd = 19) : WX (ab_XS L xs) RL cL_act 6 [] (ab_rm 9 1 6) (QA n S g kd) 0 0 362 [some (.ref 0), some (.ref (ab_CB + 500000)), some (.int (nI k)), some (.int (nI N)), some (.int (nI M)), some (.int (nI i))] [] n (Hp S) := by
  refine wa_aload_n dL_act_362 rfl ?_
  refine wa_iload dL_act_363 rfl ?_
  refine wa_iconst (x := 1) dL_act_365 (by decide) ?_
  refine wa_iload dL_act_366 rfl ?_
  refine wa_sipush (x := 400) dL_act_368 (by decide) ?_
  refine wa_irem dL_act_371 (by decide) ?_
  rw [show nI (M) - nI (M) / (400 : Int32) * (400 : Int32) = nI (M % 400) from nI_rem (a := M) (b := 400) (by omega) (by omega) (by omega)]
  refine wa_iadd dL_act_372 ?_
  rw [show (1 : Int32) + nI (M % 400) = nI (1 + M % 400) from nI_addS (1) (M % 400)]
  have hx : ∀ y : Int32, ACT kd y g _ := fun y => AC_battery (r := i) (x := nI (1 + M % 400)) hV.j hk (by rw [nI_toInt (by omega)]; omega)
  refine c_chg (As := [.int (nI i), .int (nI (1 + M % 400))]) dL_act_373 (vr_newBattery_0 hV.1 hV.2.1 hV.j.1 hV.2.2.2.1 hV.2.2.2.2.1 hV.2.2.2.2.2 hi (nI (1 + M % 400)) (inrN (lo := 1) (hi := 9999) (by omega) (by omega) (by decide))) lk_L_165 rfl hV (hx 0).2.1 rfl (fun S' hV' hs => ?_)
  exact wa_ireturn dL_act_376 (ACP.mk hV' hs (hx _) (by decide) (by decide))
theorem ac_377 {n c L k N M i : Nat} {xs : Nat → Int32} {S : SS} {g : Nat → Int32} {kd : Int32} (hV : VS n S g c) (hi : i < rn g) (hN : N < 100000) (hM : M < 100000) (hT : (g 1).toInt ≤ 100000) (hk : kd = 20) : WX (ab_XS L xs) RL cL_act 6 [] (ab_rm 9 1 6) (QA n S g kd) 0 0 377 [some (.ref 0), some (.ref (ab_CB + 500000)), some (.int (nI k)), some (.int (nI N)), some (.int (nI M)), some (.int (nI i))] [] n (Hp S) := by
  refine wa_aload_n dL_act_377 rfl ?_
  refine wa_iload dL_act_378 rfl ?_
  refine wa_iload dL_act_380 rfl ?_
  refine wa_bipush (x := 101) dL_act_382 (by decide) ?_
  refine wa_irem dL_act_384 (by decide) ?_
  rw [show nI (M) - nI (M) / (101 : Int32) * (101 : Int32) = nI (M % 101) from nI_rem (a := M) (b := 101) (by omega) (by omega) (by omega)]
  have hx : ∀ y : Int32, ACT kd y g _ := fun y => AC_turn (r := i) (x := nI (M % 101)) hV.j hk (by rw [nI_toInt (by omega)]; omega)
  refine c_chg (As := [.int (nI i), .int (nI (M % 101))]) dL_act_385 (vr_turn_0 hV.1 hV.2.1 hV.j.1 hV.2.2.2.1 hV.2.2.2.2.1 hV.2.2.2.2.2 hi (nI (M % 101)) (inrN (lo := 0) (hi := 100) (by omega) (by omega) (by decide))) lk_L_168 rfl hV (hx 0).2.1 rfl (fun S' hV' hs => ?_)
  exact wa_ireturn dL_act_388 (ACP.mk hV' hs (hx _) (by decide) (by decide))
theorem ac_181 {n c L k N M i : Nat} {xs : Nat → Int32} {S : SS} {g : Nat → Int32} {kd : Int32} (hV : VS n S g c) (hi : i < rn g) (hN : N < 100000) (hM : M < 100000) (hT : (g 1).toInt ≤ 100000) : WX (ab_XS L xs) RL cL_act 6 [] (ab_rm 9 1 6) (QA n S g kd) 0 0 181 [some (.ref 0), some (.ref (ab_CB + 500000)), some (.int (nI k)), some (.int (nI N)), some (.int (nI M)), some (.int (nI i))] [] n (Hp S) := by
  refine wa_aload_n dL_act_181 rfl ?_
  refine wa_iload dL_act_182 rfl ?_
  refine wa_iload dL_act_184 rfl ?_
  refine wa_bipush (x := 48) dL_act_186 (by decide) ?_
  refine wa_irem dL_act_188 (by decide) ?_
  rw [show nI (M) - nI (M) / (48 : Int32) * (48 : Int32) = nI (M % 48) from nI_rem (a := M) (b := 48) (by omega) (by omega) (by omega)]
  refine wa_callW (As := [.ref 0, .int (nI i), .int (nI (M % 48))]) dL_act_189 lk_L_137 (yl_cleared (kd := kd) hV hi (by omega)) rfl (by exact Nat.le_of_ble_eq_true rfl) (by unfold ab_fit ab_rm; refine ⟨?_, ?_, ?_, ?_⟩ <;> simp) (by exact Nat.le_of_ble_eq_true rfl) (fun ro n' h' q _ => ?_) (fun E n' h' q _ => by obtain ⟨-, v, S', g', c', e1, -⟩ := q; cases e1)
  obtain ⟨rfl, v, S', g', c', e1, rfl, hV', hs, hx⟩ := q
  cases e1
  exact wa_ireturn dL_act_192 (ACP.mk hV' hs hx (by decide) (by decide))
theorem ac_264 {n c L k N M i : Nat} {xs : Nat → Int32} {S : SS} {g : Nat → Int32} {kd : Int32} (hV : VS n S g c) (hi : i < rn g) (hN : N < 100000) (hM : M < 100000) (hT : (g 1).toInt ≤ 100000) : WX (ab_XS L xs) RL cL_act 6 [] (ab_rm 9 1 6) (QA n S g kd) 0 0 264 [some (.ref 0), some (.ref (ab_CB + 500000)), some (.int (nI k)), some (.int (nI N)), some (.int (nI M)), some (.int (nI i))] [] n (Hp S) := by
  have t0 := hV.g1
  refine wa_aload_n dL_act_264 rfl ?_
  refine wa_aload_n dL_act_265 rfl ?_
  refine wa_iconst (x := 1) dL_act_266 (by decide) ?_
  refine c_VI (As := [.int 1]) dL_act_267 (vr_property_0_1 hV.1 hV.2.1 hV.j.1) lk_L_115 rfl (isO_VR _ _ _) rfl (ltS hV.1) ?_
  refine wa_iconst (x := 1) dL_act_270 (by decide) ?_
  refine wa_iadd dL_act_271 ?_
  refine wa_iload dL_act_272 rfl ?_
  refine wa_bipush (x := 20) dL_act_274 (by decide) ?_
  refine wa_irem dL_act_276 (by decide) ?_
  rw [show nI (M) - nI (M) / (20 : Int32) * (20 : Int32) = nI (M % 20) from nI_rem (a := M) (b := 20) (by omega) (by omega) (by omega)]
  refine wa_iadd dL_act_277 ?_
  refine wa_iload dL_act_278 rfl ?_
  refine wa_iload_n dL_act_280 rfl ?_
  refine wa_bipush (x := 7) dL_act_281 (by decide) ?_
  refine wa_idiv dL_act_283 (by decide) ?_
  rw [show nI (N) / (7 : Int32) = nI (N / 7) from nI_div (a := N) (b := 7) (by omega) (by omega) (by omega)]
  refine wa_iconst (x := 4) dL_act_284 (by decide) ?_
  refine wa_irem dL_act_285 (by decide) ?_
  rw [show nI (N / 7) - nI (N / 7) / (4 : Int32) * (4 : Int32) = nI ((N / 7) % 4) from nI_rem (a := N / 7) (b := 4) (by omega) (by omega) (by omega)]
  have e20 : (nI (M % 20)).toInt = ((M % 20 : Nat) : Int) := nI_toInt (by omega)
  have e4 : (nI (N / 7 % 4)).toInt = ((N / 7 % 4 : Nat) : Int) := nI_toInt (by omega)
  have e1 : (g 1 + 1).toInt = (g 1).toInt + 1 := i_add1 t0 (by omega)
  have et : (g 1 + 1 + nI (M % 20)).toInt = (g 1).toInt + 1 + ((M % 20 : Nat) : Int) := by
    rw [Int32.toInt_add, e1, e20]
    exact Int.bmod_eq_of_le (by omega) (by omega)
  have e9 : (g 1 + 9999).toInt = (g 1).toInt + 9999 := by
    rw [Int32.toInt_add, show (9999 : Int32).toInt = 9999 from rfl]
    exact Int.bmod_eq_of_le (by omega) (by omega)
  refine wa_callW (As := [.ref 0, .int (g 1 + 1 + nI (M % 20)), .int (nI i), .int (nI ((N / 7) % 4))]) dL_act_286 lk_L_152 (yl_planned (kd := kd) hV hi ⟨by rw [Int32.le_iff_toInt_le, e1, et]; omega, by rw [Int32.le_iff_toInt_le, et, e9]; omega⟩ ⟨by omega, by omega⟩ (inrN (lo := 0) (hi := 3) (by omega) (by omega) (by decide)) (by rw [e4]; omega)) rfl (by exact Nat.le_of_ble_eq_true rfl) (by unfold ab_fit ab_rm; refine ⟨?_, ?_, ?_, ?_⟩ <;> simp) (by exact Nat.le_of_ble_eq_true rfl) (fun ro n' h' q _ => ?_) (fun E n' h' q _ => by obtain ⟨-, v, S', g', c', e1, -⟩ := q; cases e1)
  obtain ⟨rfl, v, S', g', c', e1, rfl, hV', hs, hx⟩ := q
  cases e1
  exact wa_ireturn dL_act_289 (ACP.mk hV' hs hx (by decide) (by decide))
theorem ac_218 {n c L k N M i : Nat} {xs : Nat → Int32} {S : SS} {g : Nat → Int32} {kd : Int32} (hV : VS n S g c) (hi : i < rn g) (hN : N < 100000) (hM : M < 100000) (hT : (g 1).toInt ≤ 100000) : WX (ab_XS L xs) RL cL_act 6 [] (ab_rm 9 1 6) (QA n S g kd) 0 0 218 [some (.ref 0), some (.ref (ab_CB + 500000)), some (.int (nI k)), some (.int (nI N)), some (.int (nI M)), some (.int (nI i))] [] n (Hp S) := by
  refine wa_aload_n dL_act_218 rfl ?_
  refine wa_iload dL_act_219 rfl ?_
  refine wa_iload dL_act_221 rfl ?_
  refine wa_iconst (x := 3) dL_act_223 (by decide) ?_
  refine wa_irem dL_act_224 (by decide) ?_
  rw [show nI (M) - nI (M) / (3 : Int32) * (3 : Int32) = nI (M % 3) from nI_rem (a := M) (b := 3) (by omega) (by omega) (by omega)]
  have tail : ∀ b : Int32, b = 0 ∨ b = 1 → WX (ab_XS L xs) RL cL_act 6 [] (ab_rm 9 1 6) (QA n S g kd) 0 0 233 [some (.ref 0), some (.ref (ab_CB + 500000)), some (.int (nI k)), some (.int (nI N)), some (.int (nI M)), some (.int (nI i))] [.int b, .int (nI i), .ref 0] n (Hp S) := by
    intro b hb
    have hx : ∀ y : Int32, ACT kd y g (pt g i 5 b) := fun y => AC_window hV.j hb
    refine c_chg (As := [.int (nI i), .int b]) dL_act_233 (vr_setWindow_0 hV.1 hV.2.1 hV.j.1 hV.2.2.2.1 hV.2.2.2.2.1 hV.2.2.2.2.2 hi b hb) lk_L_144 rfl hV (hx 0).2.1 rfl (fun S' hV' hs => ?_)
    refine wa_if_eq 243 dL_act_236 rfl (fun z => ?_) (fun z => ?_)
    · refine wa_iconst (x := 0) dL_act_243 (by decide) ?_
      exact wa_ireturn dL_act_244 (ACP.mk hV' hs (hx 0) (by decide) (by decide))
    · refine wa_iconst (x := 1) dL_act_239 (by decide) ?_
      refine wa_goto 244 dL_act_240 rfl ?_
      exact wa_ireturn dL_act_244 (ACP.mk hV' hs (hx 1) (by decide) (by decide))
  refine wa_if_le 232 dL_act_225 rfl (fun z => ?_) (fun z => ?_)
  · refine wa_iconst (x := 0) dL_act_232 (by decide) ?_
    exact tail 0 (Or.inl rfl)
  · refine wa_iconst (x := 1) dL_act_228 (by decide) ?_
    refine wa_goto 233 dL_act_229 rfl ?_
    exact tail 1 (Or.inr rfl)
theorem ac_245 {n c L k N M i : Nat} {xs : Nat → Int32} {S : SS} {g : Nat → Int32} {kd : Int32} (hV : VS n S g c) (hi : i < rn g) (hN : N < 100000) (hM : M < 100000) (hT : (g 1).toInt ≤ 100000) : WX (ab_XS L xs) RL cL_act 6 [] (ab_rm 9 1 6) (QA n S g kd) 0 0 245 [some (.ref 0), some (.ref (ab_CB + 500000)), some (.int (nI k)), some (.int (nI N)), some (.int (nI M)), some (.int (nI i))] [] n (Hp S) := by
  refine wa_aload_n dL_act_245 rfl ?_
  refine wa_iload dL_act_246 rfl ?_
  refine wa_iload dL_act_248 rfl ?_
  refine wa_iconst (x := 2) dL_act_250 (by decide) ?_
  refine wa_irem dL_act_251 (by decide) ?_
  rw [show nI (M) - nI (M) / (2 : Int32) * (2 : Int32) = nI (M % 2) from nI_rem (a := M) (b := 2) (by omega) (by omega) (by omega)]
  have tail : ∀ b : Int32, b = 0 ∨ b = 1 → WX (ab_XS L xs) RL cL_act 6 [] (ab_rm 9 1 6) (QA n S g kd) 0 0 260 [some (.ref 0), some (.ref (ab_CB + 500000)), some (.int (nI k)), some (.int (nI N)), some (.int (nI M)), some (.int (nI i))] [.int b, .int (nI i), .ref 0] n (Hp S) := by
    intro b hb
    have hx : ∀ y : Int32, ACT kd y g (pt g i 6 b) := fun y => AC_present hV.j hb
    refine c_chg (As := [.int (nI i), .int b]) dL_act_260 (vr_setPresent_0 hV.1 hV.2.1 hV.j.1 hV.2.2.2.1 hV.2.2.2.2.1 hV.2.2.2.2.2 hi b hb) lk_L_148 rfl hV (hx 0).2.1 rfl (fun S' hV' hs => ?_)
    exact wa_ireturn dL_act_263 (ACP.mk hV' hs (hx _) (by decide) (by decide))
  refine wa_if_ne 259 dL_act_252 rfl (fun z => ?_) (fun z => ?_)
  · refine wa_iconst (x := 0) dL_act_259 (by decide) ?_
    exact tail 0 (Or.inl rfl)
  · refine wa_iconst (x := 1) dL_act_255 (by decide) ?_
    refine wa_goto 260 dL_act_256 rfl ?_
    exact tail 1 (Or.inr rfl)
theorem ac_290 {n c L k N M i : Nat} {xs : Nat → Int32} {S : SS} {g : Nat → Int32} {kd : Int32} (hV : VS n S g c) (hi : i < rn g) (hN : N < 100000) (hM : M < 100000) (hT : (g 1).toInt ≤ 100000) : WX (ab_XS L xs) RL cL_act 6 [] (ab_rm 9 1 6) (QA n S g kd) 0 0 290 [some (.ref 0), some (.ref (ab_CB + 500000)), some (.int (nI k)), some (.int (nI N)), some (.int (nI M)), some (.int (nI i))] [] n (Hp S) := by
  obtain ⟨g3, g20⟩ := hV.g3
  refine wa_aload_n dL_act_290 rfl ?_
  refine wa_iconst (x := 4) dL_act_291 (by decide) ?_
  refine c_VI (As := [.int 4]) dL_act_292 (vr_property_0_4 hV.1 hV.2.1 hV.j.1) lk_L_115 rfl (isO_VR _ _ _) rfl (ltS hV.1) ?_
  refine wa_if_ne 304 dL_act_295 rfl (fun z => ?_) (fun z => ?_)
  · have hp : 0 < pn g := Nat.pos_of_ne_zero (fun y => z (by rw [g3, y]; rfl))
    refine wa_aload_n dL_act_304 rfl ?_
    refine wa_iload dL_act_305 rfl ?_
    refine wa_aload_n dL_act_307 rfl ?_
    refine wa_iconst (x := 4) dL_act_308 (by decide) ?_
    refine c_VI (As := [.int 4]) dL_act_309 (vr_property_0_4 hV.1 hV.2.1 hV.j.1) lk_L_115 rfl (isO_VR _ _ _) rfl (ltS hV.1) ?_
    rw [g3]
    refine wa_irem dL_act_312 (nI_ne0 hp (by omega)) ?_
    rw [nI_rem (by omega) (by omega) hp]
    have hm := Nat.mod_lt M hp
    have hx : ACT kd (g 3 - 1) g (f_drop (M % pn g) 1 g) := ACT_drop hV.j hm
    refine c_chg (As := [.int (nI (M % pn g))]) dL_act_313 (vr_dropPlan_0 hV.1 hV.2.1 hV.j.1 hV.2.2.2.1 hV.2.2.2.2.1 hV.2.2.2.2.2 hm ⟨nI_0le (by omega), by rw [g3]; exact (nI_ltI (by omega) (by omega)).mpr hm⟩) lk_L_156 rfl hV hx.2.1 rfl (fun S' hV' hs => ?_)
    exact wa_ireturn dL_act_316 (ACP.mk hV' hs hx (by decide) (by decide))
  · refine wa_sipush (x := (-999)) dL_act_298 (by decide) ?_
    refine wa_goto 316 dL_act_301 rfl ?_
    exact wa_ireturn dL_act_316 (ACP.mk hV rfl (ACT_none hV.j) (by decide) (by decide))
theorem ac_317 {n c L k N M i : Nat} {xs : Nat → Int32} {S : SS} {g : Nat → Int32} {kd : Int32} (hV : VS n S g c) (hi : i < rn g) (hN : N < 100000) (hM : M < 100000) (hT : (g 1).toInt ≤ 100000) : WX (ab_XS L xs) RL cL_act 6 [] (ab_rm 9 1 6) (QA n S g kd) 0 0 317 [some (.ref 0), some (.ref (ab_CB + 500000)), some (.int (nI k)), some (.int (nI N)), some (.int (nI M)), some (.int (nI i))] [] n (Hp S) := by
  refine wa_aload_n dL_act_317 rfl ?_
  refine wa_iload dL_act_318 rfl ?_
  refine wa_sipush (x := 500) dL_act_320 (by decide) ?_
  refine wa_irem dL_act_323 (by decide) ?_
  rw [show nI (M) - nI (M) / (500 : Int32) * (500 : Int32) = nI (M % 500) from nI_rem (a := M) (b := 500) (by omega) (by omega) (by omega)]
  refine wa_sipush (x := 200) dL_act_324 (by decide) ?_
  refine wa_isub dL_act_327 ?_
  have ex : (nI (M % 500) - (200 : Int32)).toInt = ((M % 500 : Nat) : Int) - 200 := by
    rw [Int32.toInt_sub, nI_toInt (by omega), show (200 : Int32).toInt = 200 from rfl]
    exact Int.bmod_eq_of_le (by omega) (by omega)
  have hx : ∀ y : Int32, ACT kd y g (upd g 2 (nI (M % 500) - (200 : Int32))) := fun y => AC_outside hV.j (by rw [ex]; omega)
  refine c_chg (As := [.int (nI (M % 500) - (200 : Int32))]) dL_act_328 (vr_setOutside_0 hV.1 hV.2.1 hV.j.1 hV.2.2.2.1 hV.2.2.2.2.1 hV.2.2.2.2.2 _ ⟨by rw [Int32.le_iff_toInt_le, ex, show (-300 : Int32).toInt = -300 from rfl]; omega, by rw [Int32.le_iff_toInt_le, ex, show (400 : Int32).toInt = 400 from rfl]; omega⟩) lk_L_159 rfl hV (hx 0).2.1 rfl (fun S' hV' hs => ?_)
  refine wa_sipush (x := 300) dL_act_331 (by decide) ?_
  refine wa_iadd dL_act_334 ?_
  exact wa_ireturn dL_act_335 (ACP.mk hV' hs (hx _) (by decide) (by decide))
theorem yl_act {n c L k : Nat} {xs : Nat → Int32} {S : SS} {g : Nat → Int32} (hL : L < 2 ^ 31) (hk : k < 1000) (hV : VS n S g c) (hr : 0 < rn g) (hT : (g 1).toInt ≤ 100000) : AMX (ab_XS L xs) yL_act cL_act 6 (some .int) [] 9 1 6 [.ref 0, .ref (ab_CB + 500000), .int (nI k)] n (Hp S) (ACP n S g (nI (dv L xs k 24))) := by
  intro has
  change WX (ab_XS L xs) RL cL_act 6 [] (ab_rm 9 1 6) (QA n S g (nI (dv L xs k 24))) 0 0 0 [some (.ref 0), some (.ref (ab_CB + 500000)), some (.int (nI k)), none, none, none] [] n _
  obtain ⟨g0, g6⟩ := hV.g0
  refine wa_aload_n dL_act_0 rfl ?_
  refine wa_iload_n dL_act_1 rfl ?_
  refine wa_iconst (x := 1) dL_act_2 (by decide) ?_
  refine wa_iadd dL_act_3 ?_
  rw [show nI (k) + (1 : Int32) = nI (k + 1) from nI_addS (k) (1)]
  refine wa_ldc dL_act_4 wv_L_130 ?_
  refine x_SI (As := [.ref (ab_CB + 500000), .int (nI (k + 1)), .int (nI (100000))]) dL_act_6 (ab_XS_M _ _) (yl_draw (k := k + 1) (m := 100000) hL (by omega) (by decide) (by decide)) lk_L_40 rfl ?_
  refine wa_istore_n dL_act_9 rfl ?_
  refine wa_aload_n dL_act_10 rfl ?_
  refine wa_iload_n dL_act_11 rfl ?_
  refine wa_iconst (x := 2) dL_act_12 (by decide) ?_
  refine wa_iadd dL_act_13 ?_
  rw [show nI (k) + (2 : Int32) = nI (k + 2) from nI_addS (k) (2)]
  refine wa_ldc dL_act_14 wv_L_130 ?_
  refine x_SI (As := [.ref (ab_CB + 500000), .int (nI (k + 2)), .int (nI (100000))]) dL_act_16 (ab_XS_M _ _) (yl_draw (k := k + 2) (m := 100000) hL (by omega) (by decide) (by decide)) lk_L_40 rfl ?_
  have hN := dv_lt (L := L) (xs := xs) (k + 1) 100000 (by decide)
  have hM := dv_lt (L := L) (xs := xs) (k + 2) 100000 (by decide)
  generalize dv L xs (k + 1) 100000 = N at hN
  generalize dv L xs (k + 2) 100000 = M at hM
  refine wa_istore dL_act_19 rfl ?_
  refine wa_iload_n dL_act_21 rfl ?_
  refine wa_aload_n dL_act_22 rfl ?_
  refine wa_iconst (x := 0) dL_act_23 (by decide) ?_
  refine c_VI (As := [.int 0]) dL_act_24 (vr_property_0_0 hV.1 hV.2.1 hV.j.1) lk_L_115 rfl (isO_VR _ _ _) rfl (ltS hV.1) ?_
  rw [g0]
  refine wa_irem dL_act_27 (nI_ne0 (by omega) (by omega)) ?_
  rw [show nI (N) - nI (N) / nI (rn g) * nI (rn g) = nI (N % rn g) from nI_rem (a := N) (b := rn g) (by omega) (by omega) (by omega)]
  have hi : N % rn g < rn g := Nat.mod_lt _ (by omega)
  generalize N % rn g = i at hi
  refine wa_istore dL_act_28 rfl ?_
  refine wa_aload_n dL_act_30 rfl ?_
  refine wa_iload_n dL_act_31 rfl ?_
  refine wa_bipush (x := 24) dL_act_32 (by decide) ?_
  refine x_SI (As := [.ref (ab_CB + 500000), .int (nI (k)), .int (nI (24))]) dL_act_34 (ab_XS_M _ _) (yl_draw (k := k) (m := 24) hL (by omega) (by decide) (by decide)) lk_L_40 rfl ?_
  have hD := dv_lt (L := L) (xs := xs) k 24 (by decide)
  generalize dv L xs k 24 = D at hD
  match D, hD with
  | 0, _ => exact wa_tableIn 136 dL_act_37 (by decide) (by decide) rfl rfl (ac_136 hV hi hN hM hT)
  | 1, _ => exact wa_tableIn 136 dL_act_37 (by decide) (by decide) rfl rfl (ac_136 hV hi hN hM hT)
  | 2, _ => exact wa_tableIn 136 dL_act_37 (by decide) (by decide) rfl rfl (ac_136 hV hi hN hM hT)
  | 3, _ => exact wa_tableIn 136 dL_act_37 (by decide) (by decide) rfl rfl (ac_136 hV hi hN hM hT)
  | 4, _ => exact wa_tableIn 136 dL_act_37 (by decide) (by decide) rfl rfl (ac_136 hV hi hN hM hT)
  | 5, _ => exact wa_tableIn 146 dL_act_37 (by decide) (by decide) rfl rfl (ac_146 hV hi hN hM hT)
  | 6, _ => exact wa_tableIn 157 dL_act_37 (by decide) (by decide) rfl rfl (ac_157 hV hi hN hM hT)
  | 7, _ => exact wa_tableIn 157 dL_act_37 (by decide) (by decide) rfl rfl (ac_157 hV hi hN hM hT)
  | 8, _ => exact wa_tableIn 181 dL_act_37 (by decide) (by decide) rfl rfl (ac_181 hV hi hN hM hT)
  | 9, _ => exact wa_tableIn 193 dL_act_37 (by decide) (by decide) rfl rfl (ac_193 hV hi hN hM hT)
  | 10, _ => exact wa_tableIn 193 dL_act_37 (by decide) (by decide) rfl rfl (ac_193 hV hi hN hM hT)
  | 11, _ => exact wa_tableIn 218 dL_act_37 (by decide) (by decide) rfl rfl (ac_218 hV hi hN hM hT)
  | 12, _ => exact wa_tableIn 218 dL_act_37 (by decide) (by decide) rfl rfl (ac_218 hV hi hN hM hT)
  | 13, _ => exact wa_tableIn 245 dL_act_37 (by decide) (by decide) rfl rfl (ac_245 hV hi hN hM hT)
  | 14, _ => exact wa_tableIn 264 dL_act_37 (by decide) (by decide) rfl rfl (ac_264 hV hi hN hM hT)
  | 15, _ => exact wa_tableIn 264 dL_act_37 (by decide) (by decide) rfl rfl (ac_264 hV hi hN hM hT)
  | 16, _ => exact wa_tableIn 290 dL_act_37 (by decide) (by decide) rfl rfl (ac_290 hV hi hN hM hT)
  | 17, _ => exact wa_tableIn 317 dL_act_37 (by decide) (by decide) rfl rfl (ac_317 hV hi hN hM hT)
  | 18, _ => exact wa_tableIn 336 dL_act_37 (by decide) (by decide) rfl rfl (ac_336 hV hi hN hM hT)
  | 19, _ => exact wa_tableIn 362 dL_act_37 (by decide) (by decide) rfl rfl (ac_362 hV hi hN hM hT rfl)
  | 20, _ => exact wa_tableIn 377 dL_act_37 (by decide) (by decide) rfl rfl (ac_377 hV hi hN hM hT rfl)
  | 21, _ => exact wa_tableOut 389 dL_act_37 (by decide) rfl (ac_389 hV hi hN hM hT)
  | 22, _ => exact wa_tableOut 389 dL_act_37 (by decide) rfl (ac_389 hV hi hN hM hT)
  | 23, _ => exact wa_tableOut 389 dL_act_37 (by decide) rfl (ac_389 hV hi hN hM hT)
  | D + 24, h => exact absurd h (by omega)
