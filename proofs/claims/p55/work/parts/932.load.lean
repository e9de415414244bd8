/-! THE LAW: load. Written by program (wip/p55/gen/m932.py) but for the heads. -/
/-- what the law keeps of a state -/
def VS (n : Nat) (S : SS) (g : Nat → Int32) (c : Nat) : Prop := 269 ≤ n ∧ HH S 34 g (fun _ => True) ∧ JJ g ∧ PPf S.2.2.1 ∧ c ≤ 6 ∧ S.1 0 7 = nI c
theorem EX_load {g : Nat → Int32} (hg : GG 0 g) (h1 : g 1 = 0) (h : ∀ i, of g i 7 = 0 ∧ of g i 16 = 0 ∧ of g i 17 = 0) : EX g := by
  intro i hi
  obtain ⟨a, b, c⟩ := h i
  have h5 := hg.2.1
  unfold GH at h5
  unfold EXr
  rw [a, b, c, h1, Int32.toInt_zero]
  omega
/-- the text's String, from any state with these cells -/
theorem str_of {n len : Nat} {S : SS} {F : Nat → Int32} (hn : 269 ≤ n) (hn1 : n + 1 < ab_CB) (hl : len < 2 ^ 31) (e1 : ltc S n = .inr (6, [.ref (n + 1), .int 0, .int 0, .int 0])) (e2 : ltc S (n + 1) = .inl (1, len, .inl F)) : STR (n + 2) (Hp S) n len F :=
  ⟨hl, 6, 4, n + 1, _, ⟨cl_ST.1, cl_ST.2.1, by decide⟩, ⟨Or.inl (by omega), (hp_lt S hn (by omega)).trans e1⟩, Or.inl (by omega), (hp_lt S (by omega) hn1).trans e2⟩
def LDP : ab_R → Nat → ab_H → Prop := fun r n' h' => r = .inl (some (.int 1)) ∧ n' ≤ 330 ∧ ∃ S' g' c', h' = Hp S' ∧ VS n' S' g' c' ∧ 0 < rn g' ∧ (g' 1).toInt = 0
theorem ld_end {L n c j k z : Nat} {xs : Nat → Int32} {S0 S : SS} {g f : Nat → Int32} {T : Int} (hL : L < 2 ^ 31) (h1 : S0.1 1 1 = 0) (hH : HH S0 34 g (fun _ => True)) (hg : GG T g) (hP : PPf S0.2.2.1) (hc : c ≤ 6) (h7 : S0.1 0 7 = nI c) (hlen : (s_all (dv L xs)).length ≤ 400) (hlo : 1 ≤ (s_all (dv L xs)).length) (hw : WB 269 S0 n S j f (s_all (dv L xs)) k z) (gk : k ≤ 5) (gz : z ≤ 1200) : WX (ab_XS L xs) RL cL_load 8 [] (ab_rm 11 60 3000) (fun r k z n' h' => k ≤ 60 ∧ z ≤ 3000 ∧ ab_rok (some .boolean) r ∧ LDP r n' h') (2 + k) (20 + z) 645 (LLs L xs (some (.int (nI (dv L xs 14 60)))) (some (.int (nI (dv L xs 47 3)))) (some (.int (nI (dv L xs 47 3))))) [] n (Hp S) := by
  have v0 := dv_lt (L := L) (xs := xs) 0 3 (by decide)
  have v14 := dv_lt (L := L) (xs := xs) 14 60 (by decide)
  have v47 := dv_lt (L := L) (xs := xs) 47 3 (by decide)
  have hv : ∀ k m, 0 < m → dv L xs k m < m := fun k m hm => dv_lt k m hm
  have hnn := hw.2.2.2.1
  have hF := hw.ff
  have hsb := hw.1
  have hby := hsb.2.2.2.2
  generalize hl9 : (s_all (dv L xs)).length = len at hsb
  refine wa_aload_n dL_load_645 rfl ?_
  refine wa_aload_n dL_load_646 rfl ?_
  refine wa_callV (As := []) dL_load_647 lk_L_101 (sb_toString (by omega) (by show n + 3 < 1000000; omega) hsb) rfl (isO_SB _ _ _) rfl (Or.inl (ltS (by omega))) (by exact Nat.le_of_ble_eq_true rfl) (by unfold ab_fit ab_rm; refine ⟨?_, ?_, ?_, ?_⟩ <;> simp <;> omega) (by exact Nat.le_of_ble_eq_true rfl) (fun ro n' h' q _ => ?_) (fun E n' h' q _ => by cases q.1)
  obtain ⟨q1, q2, F, lt, q3, q4, q5, q6, q7⟩ := q
  rw [q2, q4]
  cases q1
  have hTB : TBY F len := fun i hi => by rw [q3 i hi]; exact hby i
  refine wa_callS (As := [.ref 0, .ref n]) dL_load_650 lk_L_105 (yl_feed (n := n + 2) (a := n) (by omega) (show 1 ≤ len ∧ len ≤ 480 by omega) (show S.1 1 1 = 0 from (congrFun (hF.2.1 1 (by decide)) 1).trans h1) hTB (fun S' e => str_of (by omega) (by show n + 1 < 1000000; omega) (by omega) ((congrFun (congrArg (fun t => t.2.2.2.2.2.1) e) n).trans q6) ((congrFun (congrArg (fun t => t.2.2.2.2.2.1) e) (n + 1)).trans q7))) rfl (by exact Nat.le_of_ble_eq_true rfl) (by unfold ab_fit ab_rm; refine ⟨?_, ?_, ?_, ?_⟩ <;> simp <;> omega) (by exact Nat.le_of_ble_eq_true rfl) (fun ro n' h' q _ => ?_) (fun E n' h' q _ => by cases q.1)
  obtain ⟨r1, r2, S2, r3, r4⟩ := q
  rw [r2, r3]
  cases r1
  obtain ⟨d1, d2, d3, d4, d5⟩ := r4
  have hl0 := hw.2.1
  have hSuf : Suf (S2.1 2) len 0 (s_all (dv L xs)) := ⟨by omega, fun i ch hi => by
    have hi2 : i < len := by
      have := (List.getElem?_eq_some_iff.mp hi).1
      omega
    rw [Nat.zero_add, d5 i hi2, q3 i hi2]
    exact hl0 i ch hi⟩
  obtain ⟨ps, hps, hfin⟩ := P_all hv hSuf
  have hH2 : HH S2 34 g (fun _ => True) := hH.of (fun k k1 k2 => (d2 k (by omega) (by omega)).trans (hF.2.1 k (by omega)))
  have h72 : S2.1 0 7 = nI c := (congrFun ((d2 0 (by decide) (by decide)).trans (hF.2.1 0 (by decide))) 7).trans h7
  have hP2 : PPf S2.2.2.1 := by
    rw [show S2.2.2.1 = S0.2.2.1 from (congrArg (fun t => t.2.1) d1).trans hF.1.1]
    exact hP
  have hsb2 : sbr S2 < n + 2 := by
    have e : sbr S2 = sbr S := congrArg (fun t => t.2.2.2.2.1) d1
    rw [e]
    have := hsb.1.2.1
    omega
  refine wa_aload_n dL_load_653 rfl ?_
  refine wa_callV (As := []) dL_load_654 lk_L_109 (vr_load (n := n + 2) (b := S2.1 2) (by omega) px_wordHere (by show n + 2 + 19 ≤ 1000000; omega) hsb2 (by omega) rfl d4 hH2 hg hP2 hc h72) rfl (isO_VR _ _ _) rfl (Or.inl (ltS (by omega))) (by exact Nat.le_of_ble_eq_true rfl) (by unfold ab_fit ab_rm; refine ⟨?_, ?_, ?_, ?_⟩ <;> simp <;> omega) (by exact Nat.le_of_ble_eq_true rfl) (fun ro n1 hx q _ => ?_) (fun E n' h' q _ => by obtain ⟨v, S', y1, -⟩ := q; cases y1)
  obtain ⟨w1, S9, y1, y2, l1, u1, r1⟩ := q
  rw [y2]
  cases y1
  unfold LDV at r1
  rw [hps] at r1
  obtain ⟨e1, hG9, S3, S4, nf, nl, f1, ⟨ec, -, -⟩, rm, fc, hH9, -, -⟩ := r1
  obtain ⟨i1, i2, i3, i4, i5, i6, i7⟩ := hfin
  rw [e1, i1]
  have hn1 : 269 ≤ n1 := by omega
  have g1 : (ps.2.1 1).toInt = 0 := by rw [i2]; rfl
  have hEC : S9.1 0 1 = 0 := by
    rw [(fc.2 0 (Or.inl (by decide))).1, rm.2.2.2.2.1 1 (by decide)]
    exact ec
  refine wa_iload_n dL_load_657 rfl ?_
  refine wa_icmp_ne 749 dL_load_658 rfl (fun z => absurd rfl z) (fun _ => ?_)
  refine wa_aload_n dL_load_661 rfl ?_
  refine c_VI (As := []) dL_load_662 (vr_errorCode hn1) lk_L_112 rfl (isO_VR _ _ _) rfl (ltS hn1) ?_
  refine wa_if_ne 749 dL_load_665 rfl (fun z => absurd hEC z) (fun _ => ?_)
  refine wa_aload_n dL_load_668 rfl ?_
  refine wa_iconst (x := 0) dL_load_669 (by decide) ?_
  refine c_VI (As := [.int 0]) dL_load_670 (vr_property_0_0 hn1 hH9 hG9) lk_L_115 rfl (isO_VR _ _ _) rfl (ltS hn1) ?_
  rw [i1]
  refine wa_iload_n dL_load_673 rfl ?_
  refine wa_icmp_ne 749 dL_load_674 rfl (fun z => absurd rfl z) (fun _ => ?_)
  refine wa_aload_n dL_load_677 rfl ?_
  refine wa_iconst (x := 1) dL_load_678 (by decide) ?_
  refine c_VI (As := [.int 1]) dL_load_679 (vr_property_0_1 hn1 hH9 hG9) lk_L_115 rfl (isO_VR _ _ _) rfl (ltS hn1) ?_
  rw [i2]
  refine wa_if_ne 749 dL_load_682 rfl (fun z => absurd rfl z) (fun _ => ?_)
  refine wa_aload_n dL_load_685 rfl ?_
  refine wa_iconst (x := 3) dL_load_686 (by decide) ?_
  refine c_VI (As := [.int 3]) dL_load_687 (vr_property_0_3 hn1 hH9 hG9) lk_L_115 rfl (isO_VR _ _ _) rfl (ltS hn1) ?_
  rw [i3]
  have tail2 : ∀ y : Int32, (if dv L xs 13 2 = 0 then nI (dv L xs 14 60) else 100) = y → WX (ab_XS L xs) RL cL_load 8 [] (ab_rm 11 60 3000) (fun r k z n' h' => k ≤ 60 ∧ z ≤ 3000 ∧ ab_rok (some .boolean) r ∧ LDP r n' h') (2 + k + 2 + 0 + 18 + 0 + 0 + 0 + 0) (20 + z + (len + 4) + 0 + 96 + 0 + 0 + 0 + 0) 742 (LLs L xs (some (.int (nI (dv L xs 14 60)))) (some (.int (nI (dv L xs 47 3)))) (some (.int (nI (dv L xs 47 3))))) [.int y, .int (if dv L xs 13 2 = 0 then nI (dv L xs 14 60) else 100)] n1 (Hp S9) := by
    intro y hy
    refine wa_icmp_ne 749 dL_load_742 rfl (fun z => absurd hy z) (fun _ => ?_)
    refine wa_iconst (x := 1) dL_load_745 (by decide) ?_
    refine wa_goto 750 dL_load_746 rfl ?_
    refine wa_ireturn dL_load_750 ⟨by omega, by omega, ⟨_, rfl, rfl⟩, rfl, by omega, S9, ps.2.1, c5 c + 1, rfl, ⟨hn1, hH9, ⟨by rw [g1]; exact hG9, EX_load hG9 i2 i6, i7⟩, ?_, c5_lt hc, ?_⟩, by unfold rn; rw [i1, nI_toInt (by omega)]; omega, g1⟩
    · rw [show S9.2.2.1 = pf c S3.2.2.1 from (congrArg (fun t => t.1) fc.1).trans (congrArg (fun t => t.1) rm.1)]
      refine PPf.pfP ?_ c
      rw [f1.1.1]
      exact hP2
    · rw [(fc.2 0 (Or.inl (by decide))).1]
      exact rm.2.1
  have tail1 : ∀ y : Int32, (if 0 < dv L xs 1 3 then x_out (dv L xs) else 50) = y → WX (ab_XS L xs) RL cL_load 8 [] (ab_rm 11 60 3000) (fun r k z n' h' => k ≤ 60 ∧ z ≤ 3000 ∧ ab_rok (some .boolean) r ∧ LDP r n' h') (2 + k + 2 + 0 + 18 + 0 + 0 + 0 + 0) (20 + z + (len + 4) + 0 + 96 + 0 + 0 + 0 + 0) 706 (LLs L xs (some (.int (nI (dv L xs 14 60)))) (some (.int (nI (dv L xs 47 3)))) (some (.int (nI (dv L xs 47 3))))) [.int y, .int (if 0 < dv L xs 1 3 then x_out (dv L xs) else 50)] n1 (Hp S9) := by
    intro y hy
    refine wa_icmp_ne 749 dL_load_706 rfl (fun z => absurd hy z) (fun _ => ?_)
    refine wa_aload_n dL_load_709 rfl ?_
    refine wa_iconst (x := 4) dL_load_710 (by decide) ?_
    refine c_VI (As := [.int 4]) dL_load_711 (vr_property_0_4 hn1 hH9 hG9) lk_L_115 rfl (isO_VR _ _ _) rfl (ltS hn1) ?_
    rw [i4]
    refine wa_iload dL_load_714 rfl ?_
    refine wa_icmp_ne 749 dL_load_716 rfl (fun z => absurd rfl z) (fun _ => ?_)
    refine wa_aload_n dL_load_719 rfl ?_
    refine wa_bipush (x := 11) dL_load_720 (by decide) ?_
    refine c_VI (As := [.int 11]) dL_load_722 (vr_property_0_11 hn1 hH9 hG9) lk_L_115 rfl (isO_VR _ _ _) rfl (ltS hn1) ?_
    rw [i5]
    refine wa_aload_n dL_load_725 rfl ?_
    refine wa_bipush (x := 13) dL_load_726 (by decide) ?_
    refine wa_iconst (x := 2) dL_load_728 (by decide) ?_
    refine x_SI (As := [.ref (ab_CB + 500000), .int (nI 13), .int (nI 2)]) dL_load_729 (ab_XS_M _ _) (yl_draw (k := 13) (m := 2) hL (by decide) (by decide) (by decide)) lk_L_40 rfl ?_
    by_cases c13 : dv L xs 13 2 = 0
    · refine wa_if_ne 740 dL_load_732 rfl (fun z => absurd (show nI (dv L xs 13 2) = 0 by rw [c13]; rfl) z) (fun z => ?_)
      refine wa_iload dL_load_735 rfl ?_
      refine wa_goto 742 dL_load_737 rfl ?_
      exact tail2 _ (if_pos c13)
    · refine wa_if_ne 740 dL_load_732 rfl (fun z => ?_) (fun z => absurd z (nI_ne0 (Nat.pos_of_ne_zero c13) (by have := hv 13 2 (by decide); omega)))
      refine wa_bipush (x := 100) dL_load_740 (by decide) ?_
      exact tail2 _ (if_neg c13)
  refine wa_aload_n dL_load_690 rfl ?_
  refine wa_iconst (x := 1) dL_load_691 (by decide) ?_
  refine wa_iconst (x := 3) dL_load_692 (by decide) ?_
  refine x_SI (As := [.ref (ab_CB + 500000), .int (nI 1), .int (nI 3)]) dL_load_693 (ab_XS_M _ _) (yl_draw (k := 1) (m := 3) hL (by decide) (by decide) (by decide)) lk_L_40 rfl ?_
  have v13 := hv 1 3 (by decide)
  by_cases c1 : 0 < dv L xs 1 3
  · refine wa_if_le 704 dL_load_696 rfl (fun z => absurd (nI_le0 (by omega) z) (by omega)) (fun z => ?_)
    refine wa_iload dL_load_699 rfl ?_
    refine wa_goto 706 dL_load_701 rfl ?_
    exact tail1 _ (if_pos c1)
  · refine wa_if_le 704 dL_load_696 rfl (fun z => ?_) (fun z => absurd (nI_leN (b := 0) (show dv L xs 1 3 ≤ 0 by omega) (by decide)) z)
    refine wa_bipush (x := 50) dL_load_704 (by decide) ?_
    exact tail1 _ (if_neg c1)
theorem yl_load {L c : Nat} {xs : Nat → Int32} {h : ab_H} {S : SS} {g f0 : Nat → Int32} {T : Int} (hL : L < 2 ^ 31) (hB : blk (ab_up h 267 (.inr (7, dSB))) 267 2 (sF 267) = Hp S) (hsb : SBI 269 S 0 0 f0) (h1 : S.1 1 1 = 0) (hH : HH S 34 g (fun _ => True)) (hg : GG T g) (hP : PPf S.2.2.1) (hc : c ≤ 6) (h7 : S.1 0 7 = nI c) : AMX (ab_XS L xs) yL_load cL_load 8 (some .boolean) [] 11 60 3000 [.ref 0, .ref (ab_CB + 500000)] 267 h LDP := by
  intro has
  change WX (ab_XS L xs) RL cL_load 8 [] _ _ 0 0 0 [some (.ref 0), some (.ref (ab_CB + 500000)), none, none, none, none, none, none] [] 267 _
  have v0 := dv_lt (L := L) (xs := xs) 0 3 (by decide)
  have v14 := dv_lt (L := L) (xs := xs) 14 60 (by decide)
  have v47 := dv_lt (L := L) (xs := xs) 47 3 (by decide)
  have hv : ∀ k m, 0 < m → dv L xs k m < m := fun k m hm => dv_lt k m hm
  refine wa_iconst (x := 1) dL_load_0 (by decide) ?_
  refine wa_aload_n dL_load_1 rfl ?_
  refine wa_iconst (x := 0) dL_load_2 (by decide) ?_
  refine wa_iconst (x := 3) dL_load_3 (by decide) ?_
  refine x_SI (As := [.ref (ab_CB + 500000), .int (nI 0), .int (nI 3)]) dL_load_4 (ab_XS_M _ _) (yl_draw (k := 0) (m := 3) hL (by decide) (by decide) (by decide)) lk_L_40 rfl ?_
  refine wa_iadd dL_load_7 ?_
  rw [show (1 : Int32) + nI (dv L xs 0 3) = nI (1 + dv L xs 0 3) from nI_addS 1 _]
  refine wa_istore_n dL_load_8 rfl ?_
  refine wa_new (fs := dSB) tyJ4 dL_load_9 wk_L_44 wi_J4 wz_J4 cl_SB.1 cl_SB.2.1 cl_SB.2.2.1 (by decide) (fun _ => rfl) (wf_d rfl) (by decide) (by simp [ab_rm]) (by simp [ab_rm]) ?_
  refine wa_dup dL_load_12 rfl ?_
  refine wa_callIc (As := []) dL_load_13 lk_L_46 (ct_sb (b := 267) (by decide) (ab_up_s _ _ _)) (fun E n' h' q => by cases q.1) rfl rfl (by exact Nat.le_of_ble_eq_true rfl) (by unfold ab_fitc ab_rm; refine ⟨?_, ?_, ?_, ?_⟩ <;> simp) (by exact Nat.le_of_ble_eq_true rfl) (fun ro n' h' hq _ => ?_)
  obtain ⟨q1, q2, q3⟩ := hq
  rw [q2, q3]
  cases q1
  rw [hB]
  refine wa_astore_n dL_load_16 rfl ?_
  have tail : WX (ab_XS L xs) RL cL_load 8 [] (ab_rm 11 60 3000) (fun r k z n' h' => k ≤ 60 ∧ z ≤ 3000 ∧ ab_rok (some .boolean) r ∧ LDP r n' h') 2 20 45 [some (.ref 0), some (.ref (ab_CB + 500000)), some (.int (nI (1 + dv L xs 0 3))), some (.ref 267), none, none, none, none] [.int (x_out (dv L xs))] 269 (Hp S) := by
    have l_s_out := s_out_ln L xs
    have l_s_win := s_win_ln L xs
    have l_s_bak := s_bak_ln L xs
    have l_s_ctl := s_ctl_ln L xs
    have l_s_exe := s_exe_ln L xs
    have l_s_prog := s_prog_ln L xs
    have l_rooms := s_rooms_ln L xs (1 + dv L xs 0 3)
    have l_plans := s_plans_ln L xs (dv L xs 47 3)
    refine wa_istore dL_load_45 rfl ?_
    refine wx_k (k' := 2 + 0) (z' := 20 + 0) rfl rfl ?_
    refine ld_out hL (Nat.le_refl 269) (by decide) (by decide : 2 + 5 ≤ 60) (by decide : 20 + 1200 ≤ 3000) (WB.st hsb (by decide) rfl) (by simp only [List.length_append, List.length_nil]; omega) (fun n1 S1 j1 f1 k1 z1 b1 w1 => ?_)
    refine ld_win hL (Nat.le_refl 269) (by decide) (by decide : 2 + 5 ≤ 60) (by decide : 20 + 1200 ≤ 3000) w1 (by simp only [List.length_append, List.length_nil]; omega) (fun n2 S2 j2 f2 k2 z2 b2 w2 => ?_)
    refine ld_bak hL (Nat.le_refl 269) (by decide) (by decide : 2 + 5 ≤ 60) (by decide : 20 + 1200 ≤ 3000) w2 (by simp only [List.length_append, List.length_nil]; omega) (fun n3 S3 j3 f3 k3 z3 b3 w3 => ?_)
    refine ld_ctl hL (Nat.le_refl 269) (by decide) (by decide : 2 + 5 ≤ 60) (by decide : 20 + 1200 ≤ 3000) w3 (by simp only [List.length_append, List.length_nil]; omega) (fun n4 S4 j4 f4 k4 z4 b4 w4 => ?_)
    obtain ⟨-, -, gk4, gz4⟩ := w4.lt (Nat.le_refl 269) (by decide)
    refine wa_aload_n dL_load_225 rfl ?_
    refine wa_bipush (x := 14) dL_load_226 (by decide) ?_
    refine wa_bipush (x := 60) dL_load_228 (by decide) ?_
    refine x_SI (As := [.ref (ab_CB + 500000), .int (nI 14), .int (nI 60)]) dL_load_230 (ab_XS_M _ _) (yl_draw (k := 14) (m := 60) hL (by decide) (by decide) (by decide)) lk_L_40 rfl ?_
    refine wa_istore dL_load_233 rfl ?_
    refine wx_k (k' := 2 + k4) (z' := 20 + z4) rfl rfl ?_
    refine ld_exe hL (Nat.le_refl 269) (by decide) (by decide : 2 + 5 ≤ 60) (by decide : 20 + 1200 ≤ 3000) w4 (by simp only [List.length_append, List.length_nil]; omega) (fun n5 S5 j5 f5 k5 z5 b5 w5 => ?_)
    refine wa_iconst (x := 0) dL_load_262 (by decide) ?_
    refine wa_istore dL_load_263 rfl ?_
    refine ld_rooms hL (Nat.le_refl 269) (by decide) (by decide : 2 + 5 ≤ 60) (by decide : 20 + 1200 ≤ 3000) (l := ([] ++ s_out (dv L xs) ++ s_win (dv L xs) ++ s_bak (dv L xs) ++ s_ctl (dv L xs) ++ s_exe (dv L xs))) (by simp only [List.length_append, List.length_nil]; omega) (fun n6 S6 j6 f6 k6 z6 w6 => ?_) (1 + dv L xs 0 3) 0 n5 S5 j5 f5 k5 z5 (by omega) (by rw [show s_rooms (dv L xs) 0 = [] from rfl, List.append_nil]; exact w5)
    refine ld_prg hL (Nat.le_refl 269) (by decide) (by decide : 2 + 5 ≤ 60) (by decide : 20 + 1200 ≤ 3000) w6 (by simp only [List.length_append, List.length_nil]; omega) (fun n7 S7 j7 f7 k7 z7 b7 w7 => ?_)
    obtain ⟨-, -, gk7, gz7⟩ := w7.lt (Nat.le_refl 269) (by decide)
    refine wa_aload_n dL_load_553 rfl ?_
    refine wa_bipush (x := 47) dL_load_554 (by decide) ?_
    refine wa_iconst (x := 3) dL_load_556 (by decide) ?_
    refine x_SI (As := [.ref (ab_CB + 500000), .int (nI 47), .int (nI 3)]) dL_load_557 (ab_XS_M _ _) (yl_draw (k := 47) (m := 3) hL (by decide) (by decide) (by decide)) lk_L_40 rfl ?_
    refine wa_istore dL_load_560 rfl ?_
    refine wa_iconst (x := 0) dL_load_562 (by decide) ?_
    refine wa_istore dL_load_563 rfl ?_
    refine wx_k (k' := 2 + k7) (z' := 20 + z7) rfl rfl ?_
    refine ld_plans hL (Nat.le_refl 269) (by decide) (by decide : 2 + 5 ≤ 60) (by decide : 20 + 1200 ≤ 3000) (l := ([] ++ s_out (dv L xs) ++ s_win (dv L xs) ++ s_bak (dv L xs) ++ s_ctl (dv L xs) ++ s_exe (dv L xs) ++ s_rooms (dv L xs) (1 + dv L xs 0 3) ++ s_prog (dv L xs))) (by simp only [List.length_append, List.length_nil]; omega) (fun n8 S8 j8 f8 k8 z8 w8 => ?_) (dv L xs 47 3) 0 n7 S7 j7 f7 k7 z7 (by omega) (by rw [show s_plans (dv L xs) 0 = [] from rfl, List.append_nil]; exact w7)
    have el : [] ++ s_out (dv L xs) ++ s_win (dv L xs) ++ s_bak (dv L xs) ++ s_ctl (dv L xs) ++ s_exe (dv L xs) ++ s_rooms (dv L xs) (1 + dv L xs 0 3) ++ s_prog (dv L xs) ++ s_plans (dv L xs) (dv L xs 47 3) = s_all (dv L xs) := by
      unfold s_all
      simp only [List.append_assoc, List.nil_append]
    rw [el] at w8
    have hlen : (s_all (dv L xs)).length ≤ 400 := by
      rw [← el]
      simp only [List.length_append, List.length_nil]
      omega
    have hlo := s_all_len (dv L xs)
    obtain ⟨hn8, hm8, gk8, gz8⟩ := w8.lt (Nat.le_refl 269) (by decide)
    exact ld_end hL h1 hH hg hP hc h7 hlen (by omega) w8 gk8 gz8
  refine wa_aload_n dL_load_17 rfl ?_
  refine wa_iconst (x := 2) dL_load_18 (by decide) ?_
  refine wa_iconst (x := 2) dL_load_19 (by decide) ?_
  refine x_SI (As := [.ref (ab_CB + 500000), .int (nI 2), .int (nI 2)]) dL_load_20 (ab_XS_M _ _) (yl_draw (k := 2) (m := 2) hL (by decide) (by decide) (by decide)) lk_L_40 rfl ?_
  by_cases hc2 : dv L xs 2 2 = 0
  · refine wa_if_ne 37 dL_load_23 rfl (fun z => absurd (show nI (dv L xs 2 2) = 0 by rw [hc2]; rfl) z) (fun z => ?_)
    refine wa_aload_n dL_load_26 rfl ?_
    refine wa_iconst (x := 3) dL_load_27 (by decide) ?_
    refine wa_sipush (x := 200) dL_load_28 (by decide) ?_
    refine x_SI (As := [.ref (ab_CB + 500000), .int (nI 3), .int (nI 200)]) dL_load_31 (ab_XS_M _ _) (yl_draw (k := 3) (m := 200) hL (by decide) (by decide) (by decide)) lk_L_40 rfl ?_
    refine wa_goto 45 dL_load_34 rfl ?_
    rw [show x_out (dv L xs) = nI (dv L xs 3 200) from if_pos hc2] at tail
    exact tail
  · refine wa_if_ne 37 dL_load_23 rfl (fun z => ?_) (fun z => absurd z (nI_ne0 (Nat.pos_of_ne_zero hc2) (by have := hv 2 2 (by decide); omega)))
    refine wa_aload_n dL_load_37 rfl ?_
    refine wa_iconst (x := 3) dL_load_38 (by decide) ?_
    refine wa_bipush (x := 100) dL_load_39 (by decide) ?_
    refine x_SI (As := [.ref (ab_CB + 500000), .int (nI 3), .int (nI 100)]) dL_load_41 (ab_XS_M _ _) (yl_draw (k := 3) (m := 100) hL (by decide) (by decide) (by decide)) lk_L_40 rfl ?_
    refine wa_ineg dL_load_44 ?_
    rw [show x_out (dv L xs) = -nI (dv L xs 3 100) from if_neg hc2] at tail
    exact tail
