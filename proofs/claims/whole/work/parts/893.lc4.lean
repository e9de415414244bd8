/-! The law's cases: changes. Written by program (wip/whole/gen/m890.py). -/
theorem lc_newBattery {L : Nat} {xs : Nat → Int32} {Q : ab_Q} {k z n i c : Nat} {a b c1 d : Option Value} {S : SS} {T : Int} (hi : i + 6 ≤ L) (hL : L ≤ 3072) (hI : INV T n c S) (hT0 : 0 ≤ T) (hT : T ≤ 110000) (hk : k + 80 ≤ 601024) (hz : z + 13300 ≤ 7293034) (hnb : n + 80 ≤ 900000) (hQ : LK L xs Q T n k z i) : LX L xs Q k z 2657 (lsL i a b c1 d) [] n (Hp S) := by
  have hn := hI.n
  have hh := hI.hh
  have hg := hI.gg
  have hm := hI.m
  have hcb := hI.1.2.1
  have e9 : ab_CB = 1000000 := rfl
  by_cases h1 : 0 ≤ xs (i + 1) ∧ xs (i + 1) < S.1 268 0
  · skip
    obtain ⟨r, hr, hr6, e1⟩ := hI.rnI h1
    have h1' : 0 ≤ nI r ∧ nI r < S.1 268 0 := by rw [← e1]; exact h1
    by_cases h2 : inr (xs (i + 2)) 1 9999
    · skip
      refine wa_aload_n dL_law_2657 rfl ?_
      refine l_rd (q := 1) (x := nI r) e1 dL_law_2658 dL_law_2659 dL_law_2661 dL_law_2662 dL_law_2663 (by decide) (by omega) hL ?_
      refine l_rd (q := 2) (x := xs (i + 2)) rfl dL_law_2664 dL_law_2665 dL_law_2667 dL_law_2668 dL_law_2669 (by decide) (by omega) hL ?_
      refine wa_aload_n dL_law_2670 rfl ?_
      refine wa_callW (As := [.ref 0, .int (nI r), .int (xs (i + 2)), .ref 277]) dL_law_2671 lk_L_300 (wl_newBattery_0 (P := fun v' n' S' => n' = n ∧ v' = (of (S.1 268) r 2) ∧ ∃ S1, REM S S1 (S.1 268) c ∧ HH S' 34 (pt (S.1 268) r 2 (xs (i + 2))) (fun _ => True) ∧ FRh 34 S1 S') hn (vr_newBattery_0 hn hh hg hI.pp hI.c6 hI.h7 hr _ h2) (fun r n' h' q => by obtain ⟨p1, v, S', p2, p3, S1, p4, p5, p6, p7⟩ := q; exact ⟨v, S', p2, p3, p1, p7, S1, p4, p5, p6⟩)) rfl (by exact Nat.le_of_ble_eq_true rfl) (fitL (by decide) (by decide) (by omega) (by omega)) (by exact Nat.le_of_ble_eq_true rfl) (fun ro n' h' q _ => ?_) (fun E n' h' q _ => by cases q.1)
      obtain ⟨q1, v, S', q2, -, q3, q4, S1, q5, q6, q7⟩ := q
      cases q1
      rw [q2, q3, q4]
      obtain ⟨m1, m2⟩ := hI.cm q5 q7.toc
      have e8 := m2 268 (by decide)
      have e18 : S'.1 267 18 = nI c := (congrFun (m2 267 (by decide)) 18).trans hI.h18
      have hV1 : VG T (S'.1 268) := by rw [e8]; exact hg.1
      have hM1 : RM S' := RM_of hI.c6 e18
      have hTg : T < 2147400000 := by omega
      have e8' : (so S' ((of (S.1 268) r 2) : Int32).toInt64).1 268 = S.1 268 := e8
      have hN : INV (T + 200) n (c5 c + 1) (so (su (f_rem (th S' 0)) 268 (pt (S.1 268) r 2 (xs (i + 2)))) ((of (S.1 268) r 2) : Int32).toInt64) := (hI.chg q5 q6 q7 ((GG_pt _ hg (by decide) (fun hlt => GR_w2 (hg.2.2.2.2 r hlt) (Int.le_trans (by decide) (inr_i2 h2).1))).mono (by omega)) (rn_pt _ _ _ _) (fun j _ => q11_pt _ _ _ (by decide) (by decide) j) (by omega)).soI _
      have hM := (mm_newBattery_0 (S := so S' (((of (S.1 268) r 2) : Int32).toInt64)) hn m1 hV1 hM1 hTg hr6 (xs (i + 2)) (rk_of m1 (by rw [e8']; exact h1')) h2)
      rw [md_rem m1 hI.c6 e18 e8, e8'] at hM
      refine wa_istore dL_law_2674 rfl ?_
      refine wa_aload_n dL_law_2676 rfl ?_
      refine l_rd (q := 1) (x := nI r) e1 dL_law_2677 dL_law_2678 dL_law_2680 dL_law_2681 dL_law_2682 (by decide) (by omega) hL ?_
      refine l_rd (q := 2) (x := xs (i + 2)) rfl dL_law_2683 dL_law_2684 dL_law_2686 dL_law_2687 dL_law_2688 (by decide) (by omega) hL ?_
      refine c_VI dL_law_2689 (AM.v hM rfl) lk_L_302 rfl (isO_MO _ _ _) rfl (ltS (by omega)) ?_ (hR := (fitL (by decide) (by decide) (by omega) (by omega)))
      exact l_tail0 dL_law_2692 dL_law_2694 dL_law_2695 dL_law_2698 dL_law_2700 dL_law_2705 dL_law_2707 dL_law_2710 dL_law_2711 dL_law_2712 dL_law_2713 dL_law_2715 dL_law_2716 dL_law_2717 dL_law_2722 (by decide) (by omega) (h0C hI.c6 e18 _ _) rfl (by omega) (by omega) (hQ _ _ _ _ _ _ _ _ _ (by omega) (by omega) (by omega) (by omega) (hN.mono (by omega) (Nat.le_refl _) hcb))
    · skip
      refine wa_aload_n dL_law_2657 rfl ?_
      refine l_rd (q := 1) (x := xs (i + 1)) rfl dL_law_2658 dL_law_2659 dL_law_2661 dL_law_2662 dL_law_2663 (by decide) (by omega) hL ?_
      refine l_rd (q := 2) (x := xs (i + 2)) rfl dL_law_2664 dL_law_2665 dL_law_2667 dL_law_2668 dL_law_2669 (by decide) (by omega) hL ?_
      refine wa_aload_n dL_law_2670 rfl ?_
      refine wa_callW (As := [.ref 0, .int (xs (i + 1)), .int (xs (i + 2)), .ref 277]) dL_law_2671 lk_L_300 (wl_newBattery_2 hn (vr_newBattery_2 hn hh hg _ _ h1 h2)) rfl (by exact Nat.le_of_ble_eq_true rfl) (fitL (by decide) (by decide) (by omega) (by omega)) (by exact Nat.le_of_ble_eq_true rfl) (fun ro n' h' q _ => ?_) (fun E n' h' q _ => by cases q.1)
      obtain ⟨q1, q2, q3⟩ := q
      rw [q2, q3]
      cases q1
      refine wa_istore dL_law_2674 rfl ?_
      refine wa_aload_n dL_law_2676 rfl ?_
      refine l_rd (q := 1) (x := xs (i + 1)) rfl dL_law_2677 dL_law_2678 dL_law_2680 dL_law_2681 dL_law_2682 (by decide) (by omega) hL ?_
      refine l_rd (q := 2) (x := xs (i + 2)) rfl dL_law_2683 dL_law_2684 dL_law_2686 dL_law_2687 dL_law_2688 (by decide) (by omega) hL ?_
      refine c_VI dL_law_2689 (mm_newBattery_2 hn hm hg.1 (RM_of hI.c6 hI.h18) (by omega) _ _ (rk_of hm h1) h2) lk_L_302 rfl (isO_MO _ _ _) rfl (ltS (by omega)) ?_ (hR := (fitL (by decide) (by decide) (by omega) (by omega)))
      exact l_tailE (j := 2) dL_law_2692 dL_law_2694 dL_law_2695 dL_law_2698 dL_law_2700 dL_law_2705 (o2 := 15) dL_law_2707 dL_law_2722 (by decide) (by omega) (by decide) (by decide) (th_0 _ _) (by omega) (by omega) (hQ _ _ _ _ _ _ _ _ _ (by omega) (by omega) (by omega) (by omega) ((hI.thI 2).mono (by omega) (Nat.le_refl _) hcb))
  · skip
    refine wa_aload_n dL_law_2657 rfl ?_
    refine l_rd (q := 1) (x := xs (i + 1)) rfl dL_law_2658 dL_law_2659 dL_law_2661 dL_law_2662 dL_law_2663 (by decide) (by omega) hL ?_
    refine l_rd (q := 2) (x := xs (i + 2)) rfl dL_law_2664 dL_law_2665 dL_law_2667 dL_law_2668 dL_law_2669 (by decide) (by omega) hL ?_
    refine wa_aload_n dL_law_2670 rfl ?_
    refine wa_callW (As := [.ref 0, .int (xs (i + 1)), .int (xs (i + 2)), .ref 277]) dL_law_2671 lk_L_300 (wl_newBattery_1 hn (vr_newBattery_1 hn hh hg _ _ h1)) rfl (by exact Nat.le_of_ble_eq_true rfl) (fitL (by decide) (by decide) (by omega) (by omega)) (by exact Nat.le_of_ble_eq_true rfl) (fun ro n' h' q _ => ?_) (fun E n' h' q _ => by cases q.1)
    obtain ⟨q1, q2, q3⟩ := q
    rw [q2, q3]
    cases q1
    refine wa_istore dL_law_2674 rfl ?_
    refine wa_aload_n dL_law_2676 rfl ?_
    refine l_rd (q := 1) (x := xs (i + 1)) rfl dL_law_2677 dL_law_2678 dL_law_2680 dL_law_2681 dL_law_2682 (by decide) (by omega) hL ?_
    refine l_rd (q := 2) (x := xs (i + 2)) rfl dL_law_2683 dL_law_2684 dL_law_2686 dL_law_2687 dL_law_2688 (by decide) (by omega) hL ?_
    refine c_VI dL_law_2689 (mm_newBattery_1 hn hm hg.1 (RM_of hI.c6 hI.h18) (by omega) _ _ (rk_no hm h1)) lk_L_302 rfl (isO_MO _ _ _) rfl (ltS (by omega)) ?_ (hR := (fitL (by decide) (by decide) (by omega) (by omega)))
    exact l_tailE (j := 1) dL_law_2692 dL_law_2694 dL_law_2695 dL_law_2698 dL_law_2700 dL_law_2705 (o2 := 15) dL_law_2707 dL_law_2722 (by decide) (by omega) (by decide) (by decide) (th_0 _ _) (by omega) (by omega) (hQ _ _ _ _ _ _ _ _ _ (by omega) (by omega) (by omega) (by omega) ((hI.thI 1).mono (by omega) (Nat.le_refl _) hcb))
theorem lc_turn {L : Nat} {xs : Nat → Int32} {Q : ab_Q} {k z n i c : Nat} {a b c1 d : Option Value} {S : SS} {T : Int} (hi : i + 6 ≤ L) (hL : L ≤ 3072) (hI : INV T n c S) (hT0 : 0 ≤ T) (hT : T ≤ 110000) (hk : k + 80 ≤ 601024) (hz : z + 13300 ≤ 7293034) (hnb : n + 80 ≤ 900000) (hQ : LK L xs Q T n k z i) : LX L xs Q k z 2725 (lsL i a b c1 d) [] n (Hp S) := by
  have hn := hI.n
  have hh := hI.hh
  have hg := hI.gg
  have hm := hI.m
  have hcb := hI.1.2.1
  have e9 : ab_CB = 1000000 := rfl
  by_cases h1 : 0 ≤ xs (i + 1) ∧ xs (i + 1) < S.1 268 0
  · skip
    obtain ⟨r, hr, hr6, e1⟩ := hI.rnI h1
    have h1' : 0 ≤ nI r ∧ nI r < S.1 268 0 := by rw [← e1]; exact h1
    by_cases h2 : inr (xs (i + 2)) 0 100
    · skip
      refine wa_aload_n dL_law_2725 rfl ?_
      refine l_rd (q := 1) (x := nI r) e1 dL_law_2726 dL_law_2727 dL_law_2729 dL_law_2730 dL_law_2731 (by decide) (by omega) hL ?_
      refine l_rd (q := 2) (x := xs (i + 2)) rfl dL_law_2732 dL_law_2733 dL_law_2735 dL_law_2736 dL_law_2737 (by decide) (by omega) hL ?_
      refine wa_aload_n dL_law_2738 rfl ?_
      refine wa_callW (As := [.ref 0, .int (nI r), .int (xs (i + 2)), .ref 277]) dL_law_2739 lk_L_303 (wl_turn_0 (P := fun v' n' S' => n' = n ∧ v' = (of (S.1 268) r 1) ∧ ∃ S1, REM S S1 (S.1 268) c ∧ HH S' 34 (pt (S.1 268) r 1 (xs (i + 2))) (fun _ => True) ∧ FRh 34 S1 S') hn (vr_turn_0 hn hh hg hI.pp hI.c6 hI.h7 hr _ h2) (fun r n' h' q => by obtain ⟨p1, v, S', p2, p3, S1, p4, p5, p6, p7⟩ := q; exact ⟨v, S', p2, p3, p1, p7, S1, p4, p5, p6⟩)) rfl (by exact Nat.le_of_ble_eq_true rfl) (fitL (by decide) (by decide) (by omega) (by omega)) (by exact Nat.le_of_ble_eq_true rfl) (fun ro n' h' q _ => ?_) (fun E n' h' q _ => by cases q.1)
      obtain ⟨q1, v, S', q2, -, q3, q4, S1, q5, q6, q7⟩ := q
      cases q1
      rw [q2, q3, q4]
      obtain ⟨m1, m2⟩ := hI.cm q5 q7.toc
      have e8 := m2 268 (by decide)
      have e18 : S'.1 267 18 = nI c := (congrFun (m2 267 (by decide)) 18).trans hI.h18
      have hV1 : VG T (S'.1 268) := by rw [e8]; exact hg.1
      have hM1 : RM S' := RM_of hI.c6 e18
      have hTg : T < 2147400000 := by omega
      have e8' : (so S' ((of (S.1 268) r 1) : Int32).toInt64).1 268 = S.1 268 := e8
      have hN : INV (T + 200) n (c5 c + 1) (so (su (f_rem (th S' 0)) 268 (pt (S.1 268) r 1 (xs (i + 2)))) ((of (S.1 268) r 1) : Int32).toInt64) := (hI.chg q5 q6 q7 ((GG_pt _ hg (by decide) (fun hlt => GR_w1 (hg.2.2.2.2 r hlt) (inr_i2 h2))).mono (by omega)) (rn_pt _ _ _ _) (fun j _ => q11_pt _ _ _ (by decide) (by decide) j) (by omega)).soI _
      have hM := (mm_turn_0 (S := so S' (((of (S.1 268) r 1) : Int32).toInt64)) hn m1 hV1 hM1 hTg hr6 (xs (i + 2)) (rk_of m1 (by rw [e8']; exact h1')) h2)
      rw [md_rem m1 hI.c6 e18 e8, e8'] at hM
      refine wa_istore dL_law_2742 rfl ?_
      refine wa_aload_n dL_law_2744 rfl ?_
      refine l_rd (q := 1) (x := nI r) e1 dL_law_2745 dL_law_2746 dL_law_2748 dL_law_2749 dL_law_2750 (by decide) (by omega) hL ?_
      refine l_rd (q := 2) (x := xs (i + 2)) rfl dL_law_2751 dL_law_2752 dL_law_2754 dL_law_2755 dL_law_2756 (by decide) (by omega) hL ?_
      refine c_VI dL_law_2757 (AM.v hM rfl) lk_L_305 rfl (isO_MO _ _ _) rfl (ltS (by omega)) ?_ (hR := (fitL (by decide) (by decide) (by omega) (by omega)))
      exact l_tail0 dL_law_2760 dL_law_2762 dL_law_2763 dL_law_2766 dL_law_2768 dL_law_2773 dL_law_2775 dL_law_2778 dL_law_2779 dL_law_2780 dL_law_2781 dL_law_2783 dL_law_2784 dL_law_2785 dL_law_2790 (by decide) (by omega) (h0C hI.c6 e18 _ _) rfl (by omega) (by omega) (hQ _ _ _ _ _ _ _ _ _ (by omega) (by omega) (by omega) (by omega) (hN.mono (by omega) (Nat.le_refl _) hcb))
    · skip
      refine wa_aload_n dL_law_2725 rfl ?_
      refine l_rd (q := 1) (x := xs (i + 1)) rfl dL_law_2726 dL_law_2727 dL_law_2729 dL_law_2730 dL_law_2731 (by decide) (by omega) hL ?_
      refine l_rd (q := 2) (x := xs (i + 2)) rfl dL_law_2732 dL_law_2733 dL_law_2735 dL_law_2736 dL_law_2737 (by decide) (by omega) hL ?_
      refine wa_aload_n dL_law_2738 rfl ?_
      refine wa_callW (As := [.ref 0, .int (xs (i + 1)), .int (xs (i + 2)), .ref 277]) dL_law_2739 lk_L_303 (wl_turn_2 hn (vr_turn_2 hn hh hg _ _ h1 h2)) rfl (by exact Nat.le_of_ble_eq_true rfl) (fitL (by decide) (by decide) (by omega) (by omega)) (by exact Nat.le_of_ble_eq_true rfl) (fun ro n' h' q _ => ?_) (fun E n' h' q _ => by cases q.1)
      obtain ⟨q1, q2, q3⟩ := q
      rw [q2, q3]
      cases q1
      refine wa_istore dL_law_2742 rfl ?_
      refine wa_aload_n dL_law_2744 rfl ?_
      refine l_rd (q := 1) (x := xs (i + 1)) rfl dL_law_2745 dL_law_2746 dL_law_2748 dL_law_2749 dL_law_2750 (by decide) (by omega) hL ?_
      refine l_rd (q := 2) (x := xs (i + 2)) rfl dL_law_2751 dL_law_2752 dL_law_2754 dL_law_2755 dL_law_2756 (by decide) (by omega) hL ?_
      refine c_VI dL_law_2757 (mm_turn_2 hn hm hg.1 (RM_of hI.c6 hI.h18) (by omega) _ _ (rk_of hm h1) h2) lk_L_305 rfl (isO_MO _ _ _) rfl (ltS (by omega)) ?_ (hR := (fitL (by decide) (by decide) (by omega) (by omega)))
      exact l_tailE (j := 2) dL_law_2760 dL_law_2762 dL_law_2763 dL_law_2766 dL_law_2768 dL_law_2773 (o2 := 15) dL_law_2775 dL_law_2790 (by decide) (by omega) (by decide) (by decide) (th_0 _ _) (by omega) (by omega) (hQ _ _ _ _ _ _ _ _ _ (by omega) (by omega) (by omega) (by omega) ((hI.thI 2).mono (by omega) (Nat.le_refl _) hcb))
  · skip
    refine wa_aload_n dL_law_2725 rfl ?_
    refine l_rd (q := 1) (x := xs (i + 1)) rfl dL_law_2726 dL_law_2727 dL_law_2729 dL_law_2730 dL_law_2731 (by decide) (by omega) hL ?_
    refine l_rd (q := 2) (x := xs (i + 2)) rfl dL_law_2732 dL_law_2733 dL_law_2735 dL_law_2736 dL_law_2737 (by decide) (by omega) hL ?_
    refine wa_aload_n dL_law_2738 rfl ?_
    refine wa_callW (As := [.ref 0, .int (xs (i + 1)), .int (xs (i + 2)), .ref 277]) dL_law_2739 lk_L_303 (wl_turn_1 hn (vr_turn_1 hn hh hg _ _ h1)) rfl (by exact Nat.le_of_ble_eq_true rfl) (fitL (by decide) (by decide) (by omega) (by omega)) (by exact Nat.le_of_ble_eq_true rfl) (fun ro n' h' q _ => ?_) (fun E n' h' q _ => by cases q.1)
    obtain ⟨q1, q2, q3⟩ := q
    rw [q2, q3]
    cases q1
    refine wa_istore dL_law_2742 rfl ?_
    refine wa_aload_n dL_law_2744 rfl ?_
    refine l_rd (q := 1) (x := xs (i + 1)) rfl dL_law_2745 dL_law_2746 dL_law_2748 dL_law_2749 dL_law_2750 (by decide) (by omega) hL ?_
    refine l_rd (q := 2) (x := xs (i + 2)) rfl dL_law_2751 dL_law_2752 dL_law_2754 dL_law_2755 dL_law_2756 (by decide) (by omega) hL ?_
    refine c_VI dL_law_2757 (mm_turn_1 hn hm hg.1 (RM_of hI.c6 hI.h18) (by omega) _ _ (rk_no hm h1)) lk_L_305 rfl (isO_MO _ _ _) rfl (ltS (by omega)) ?_ (hR := (fitL (by decide) (by decide) (by omega) (by omega)))
    exact l_tailE (j := 1) dL_law_2760 dL_law_2762 dL_law_2763 dL_law_2766 dL_law_2768 dL_law_2773 (o2 := 15) dL_law_2775 dL_law_2790 (by decide) (by omega) (by decide) (by decide) (th_0 _ _) (by omega) (by omega) (hQ _ _ _ _ _ _ _ _ _ (by omega) (by omega) (by omega) (by omega) ((hI.thI 1).mono (by omega) (Nat.le_refl _) hcb))
theorem lc_setWindow {L : Nat} {xs : Nat → Int32} {Q : ab_Q} {k z n i c : Nat} {a b c1 d : Option Value} {S : SS} {T : Int} (hi : i + 6 ≤ L) (hL : L ≤ 3072) (hI : INV T n c S) (hT0 : 0 ≤ T) (hT : T ≤ 110000) (hk : k + 80 ≤ 601024) (hz : z + 13300 ≤ 7293034) (hnb : n + 80 ≤ 900000) (hQ : LK L xs Q T n k z i) : LX L xs Q k z 2210 (lsL i a b c1 d) [] n (Hp S) := by
  have hn := hI.n
  have hh := hI.hh
  have hg := hI.gg
  have hm := hI.m
  have hcb := hI.1.2.1
  have e9 : ab_CB = 1000000 := rfl
  obtain ⟨y, hy, ey⟩ : ∃ y, (y = 0 ∨ y = 1) ∧ (if xs (i + 2) = 0 then (0 : Int32) else 1) = y := ⟨_, by by_cases z : xs (i + 2) = 0 <;> simp [z], rfl⟩
  by_cases h1 : 0 ≤ xs (i + 1) ∧ xs (i + 1) < S.1 268 0
  · skip
    obtain ⟨r, hr, hr6, e1⟩ := hI.rnI h1
    have h1' : 0 ≤ nI r ∧ nI r < S.1 268 0 := by rw [← e1]; exact h1
    have hout := opn_q (hg.opn hr)
    refine wa_aload_n dL_law_2210 rfl ?_
    refine l_rd (q := 1) (x := nI r) e1 dL_law_2211 dL_law_2212 dL_law_2214 dL_law_2215 dL_law_2216 (by decide) (by omega) hL ?_
    refine l_rd (q := 2) (x := xs (i + 2)) rfl dL_law_2217 dL_law_2218 dL_law_2220 dL_law_2221 dL_law_2222 (by decide) (by omega) hL ?_
    refine l_bz (y := y) ey dL_law_2223 dL_law_2226 dL_law_2227 dL_law_2230 ?_
    refine wa_aload_n dL_law_2231 rfl ?_
    refine wa_callW (As := [.ref 0, .int (nI r), .int (y), .ref 277]) dL_law_2232 lk_L_281 (wl_setWindow_0 (P := fun v' n' S' => n' = n ∧ v' = (of (S.1 268) r 5) ∧ ∃ S1, REM S S1 (S.1 268) c ∧ HH S' 34 (pt (S.1 268) r 5 y) (fun _ => True) ∧ FRh 34 S1 S') hn (vr_setWindow_0 hn hh hg hI.pp hI.c6 hI.h7 hr y hy) (fun r n' h' q => by obtain ⟨p1, v, S', p2, p3, S1, p4, p5, p6, p7⟩ := q; exact ⟨v, S', p2, p3, p1, p7, S1, p4, p5, p6⟩)) rfl (by exact Nat.le_of_ble_eq_true rfl) (fitL (by decide) (by decide) (by omega) (by omega)) (by exact Nat.le_of_ble_eq_true rfl) (fun ro n' h' q _ => ?_) (fun E n' h' q _ => by cases q.1)
    obtain ⟨q1, v, S', q2, -, q3, q4, S1, q5, q6, q7⟩ := q
    cases q1
    rw [q2, q3, q4]
    obtain ⟨m1, m2⟩ := hI.cm q5 q7.toc
    have e8 := m2 268 (by decide)
    have e18 : S'.1 267 18 = nI c := (congrFun (m2 267 (by decide)) 18).trans hI.h18
    have hV1 : VG T (S'.1 268) := by rw [e8]; exact hg.1
    have hM1 : RM S' := RM_of hI.c6 e18
    have hTg : T < 2147400000 := by omega
    have e8' : (so S' (if ((of (S.1 268) r 5) : Int32) = 0 then (0 : Int64) else 1)).1 268 = S.1 268 := e8
    have hN : INV (T + 200) n (c5 c + 1) (so (su (f_rem (th S' 0)) 268 (pt (S.1 268) r 5 y)) (if ((of (S.1 268) r 5) : Int32) = 0 then (0 : Int64) else 1)) := (hI.chg q5 q6 q7 ((GG_pt _ hg (by decide) (fun hlt => GR_pt5 _ (hg.2.2.2.2 r hlt) hy)).mono (by omega)) (rn_pt _ _ _ _) (fun j _ => q11_pt _ _ _ (by decide) (by decide) j) (by omega)).soI _
    have hM := (mm_setWindow_0 (S := so S' (if ((of (S.1 268) r 5) : Int32) = 0 then (0 : Int64) else 1)) hn m1 hV1 hM1 hTg hr6 y (rk_of m1 (by rw [e8']; exact h1')))
    simp only [bool_q hy] at hM
    rw [md_rem m1 hI.c6 e18 e8, e8'] at hM
    refine wa_istore dL_law_2235 rfl ?_
    refine wa_aload_n dL_law_2237 rfl ?_
    refine l_rd (q := 1) (x := nI r) e1 dL_law_2238 dL_law_2239 dL_law_2241 dL_law_2242 dL_law_2243 (by decide) (by omega) hL ?_
    refine l_rd (q := 2) (x := xs (i + 2)) rfl dL_law_2244 dL_law_2245 dL_law_2247 dL_law_2248 dL_law_2249 (by decide) (by omega) hL ?_
    refine l_bz (y := y) ey dL_law_2250 dL_law_2253 dL_law_2254 dL_law_2257 ?_
    refine c_VI dL_law_2258 (AM.v hM rfl) lk_L_284 rfl (isO_MO _ _ _) rfl (ltS (by omega)) ?_ (hR := (fitL (by decide) (by decide) (by omega) (by omega)))
    exact l_tailZ dL_law_2261 dL_law_2263 dL_law_2264 dL_law_2267 dL_law_2269 dL_law_2274 dL_law_2276 dL_law_2279 dL_law_2280 dL_law_2281 dL_law_2282 dL_law_2284 dL_law_2287 dL_law_2288 dL_law_2291 dL_law_2292 dL_law_2293 dL_law_2298 (by decide) (by omega) (h0C hI.c6 e18 _ _) hout (by omega) (by omega) (hQ _ _ _ _ _ _ _ _ _ (by omega) (by omega) (by omega) (by omega) (hN.mono (by omega) (Nat.le_refl _) hcb))
  · skip
    refine wa_aload_n dL_law_2210 rfl ?_
    refine l_rd (q := 1) (x := xs (i + 1)) rfl dL_law_2211 dL_law_2212 dL_law_2214 dL_law_2215 dL_law_2216 (by decide) (by omega) hL ?_
    refine l_rd (q := 2) (x := xs (i + 2)) rfl dL_law_2217 dL_law_2218 dL_law_2220 dL_law_2221 dL_law_2222 (by decide) (by omega) hL ?_
    refine l_bz (y := y) ey dL_law_2223 dL_law_2226 dL_law_2227 dL_law_2230 ?_
    refine wa_aload_n dL_law_2231 rfl ?_
    refine wa_callW (As := [.ref 0, .int (xs (i + 1)), .int (y), .ref 277]) dL_law_2232 lk_L_281 (wl_setWindow_1 hn (vr_setWindow_1 hn hh hg _ _ h1)) rfl (by exact Nat.le_of_ble_eq_true rfl) (fitL (by decide) (by decide) (by omega) (by omega)) (by exact Nat.le_of_ble_eq_true rfl) (fun ro n' h' q _ => ?_) (fun E n' h' q _ => by cases q.1)
    obtain ⟨q1, q2, q3⟩ := q
    rw [q2, q3]
    cases q1
    refine wa_istore dL_law_2235 rfl ?_
    refine wa_aload_n dL_law_2237 rfl ?_
    refine l_rd (q := 1) (x := xs (i + 1)) rfl dL_law_2238 dL_law_2239 dL_law_2241 dL_law_2242 dL_law_2243 (by decide) (by omega) hL ?_
    refine l_rd (q := 2) (x := xs (i + 2)) rfl dL_law_2244 dL_law_2245 dL_law_2247 dL_law_2248 dL_law_2249 (by decide) (by omega) hL ?_
    refine l_bz (y := y) ey dL_law_2250 dL_law_2253 dL_law_2254 dL_law_2257 ?_
    refine c_VI dL_law_2258 (mm_setWindow_1 hn hm hg.1 (RM_of hI.c6 hI.h18) (by omega) _ _ (rk_no hm h1)) lk_L_284 rfl (isO_MO _ _ _) rfl (ltS (by omega)) ?_ (hR := (fitL (by decide) (by decide) (by omega) (by omega)))
    exact l_tailE (j := 1) dL_law_2261 dL_law_2263 dL_law_2264 dL_law_2267 dL_law_2269 dL_law_2274 (o2 := 22) dL_law_2276 dL_law_2298 (by decide) (by omega) (by decide) (by decide) (th_0 _ _) (by omega) (by omega) (hQ _ _ _ _ _ _ _ _ _ (by omega) (by omega) (by omega) (by omega) ((hI.thI 1).mono (by omega) (Nat.le_refl _) hcb))
theorem lc_setPresent {L : Nat} {xs : Nat → Int32} {Q : ab_Q} {k z n i c : Nat} {a b c1 d : Option Value} {S : SS} {T : Int} (hi : i + 6 ≤ L) (hL : L ≤ 3072) (hI : INV T n c S) (hT0 : 0 ≤ T) (hT : T ≤ 110000) (hk : k + 80 ≤ 601024) (hz : z + 13300 ≤ 7293034) (hnb : n + 80 ≤ 900000) (hQ : LK L xs Q T n k z i) : LX L xs Q k z 2301 (lsL i a b c1 d) [] n (Hp S) := by
  have hn := hI.n
  have hh := hI.hh
  have hg := hI.gg
  have hm := hI.m
  have hcb := hI.1.2.1
  have e9 : ab_CB = 1000000 := rfl
  obtain ⟨y, hy, ey⟩ : ∃ y, (y = 0 ∨ y = 1) ∧ (if xs (i + 2) = 0 then (0 : Int32) else 1) = y := ⟨_, by by_cases z : xs (i + 2) = 0 <;> simp [z], rfl⟩
  by_cases h1 : 0 ≤ xs (i + 1) ∧ xs (i + 1) < S.1 268 0
  · skip
    obtain ⟨r, hr, hr6, e1⟩ := hI.rnI h1
    have h1' : 0 ≤ nI r ∧ nI r < S.1 268 0 := by rw [← e1]; exact h1
    refine wa_aload_n dL_law_2301 rfl ?_
    refine l_rd (q := 1) (x := nI r) e1 dL_law_2302 dL_law_2303 dL_law_2305 dL_law_2306 dL_law_2307 (by decide) (by omega) hL ?_
    refine l_rd (q := 2) (x := xs (i + 2)) rfl dL_law_2308 dL_law_2309 dL_law_2311 dL_law_2312 dL_law_2313 (by decide) (by omega) hL ?_
    refine l_bz (y := y) ey dL_law_2314 dL_law_2317 dL_law_2318 dL_law_2321 ?_
    refine wa_aload_n dL_law_2322 rfl ?_
    refine wa_callW (As := [.ref 0, .int (nI r), .int (y), .ref 277]) dL_law_2323 lk_L_285 (wl_setPresent_0 (P := fun v' n' S' => n' = n ∧ v' = (tgt (pt (S.1 268) r 6 y) r) ∧ ∃ S1, REM S S1 (S.1 268) c ∧ HH S' 34 (pt (S.1 268) r 6 y) (fun _ => True) ∧ FRh 34 S1 S') hn (vr_setPresent_0 hn hh hg hI.pp hI.c6 hI.h7 hr y hy) (fun r n' h' q => by obtain ⟨p1, v, S', p2, p3, S1, p4, p5, p6, p7⟩ := q; exact ⟨v, S', p2, p3, p1, p7, S1, p4, p5, p6⟩)) rfl (by exact Nat.le_of_ble_eq_true rfl) (fitL (by decide) (by decide) (by omega) (by omega)) (by exact Nat.le_of_ble_eq_true rfl) (fun ro n' h' q _ => ?_) (fun E n' h' q _ => by cases q.1)
    obtain ⟨q1, v, S', q2, -, q3, q4, S1, q5, q6, q7⟩ := q
    cases q1
    rw [q2, q3, q4]
    obtain ⟨m1, m2⟩ := hI.cm q5 q7.toc
    have e8 := m2 268 (by decide)
    have e18 : S'.1 267 18 = nI c := (congrFun (m2 267 (by decide)) 18).trans hI.h18
    have hV1 : VG T (S'.1 268) := by rw [e8]; exact hg.1
    have hM1 : RM S' := RM_of hI.c6 e18
    have hTg : T < 2147400000 := by omega
    have e8' : (so S' ((tgt (pt (S.1 268) r 6 y) r) : Int32).toInt64).1 268 = S.1 268 := e8
    have hN : INV (T + 200) n (c5 c + 1) (so (su (f_rem (th S' 0)) 268 (pt (S.1 268) r 6 y)) ((tgt (pt (S.1 268) r 6 y) r) : Int32).toInt64) := (hI.chg q5 q6 q7 ((GG_pt _ hg (by decide) (fun hlt => GR_w6 (hg.2.2.2.2 r hlt) hy)).mono (by omega)) (rn_pt _ _ _ _) (fun j _ => q11_pt _ _ _ (by decide) (by decide) j) (by omega)).soI _
    have hM := (mm_setPresent_0 (S := so S' (((tgt (pt (S.1 268) r 6 y) r) : Int32).toInt64)) hn m1 hV1 hM1 hTg hr6 y (rk_of m1 (by rw [e8']; exact h1')))
    simp only [bool_q hy] at hM
    rw [md_rem m1 hI.c6 e18 e8, e8'] at hM
    refine wa_istore dL_law_2326 rfl ?_
    refine wa_aload_n dL_law_2328 rfl ?_
    refine l_rd (q := 1) (x := nI r) e1 dL_law_2329 dL_law_2330 dL_law_2332 dL_law_2333 dL_law_2334 (by decide) (by omega) hL ?_
    refine l_rd (q := 2) (x := xs (i + 2)) rfl dL_law_2335 dL_law_2336 dL_law_2338 dL_law_2339 dL_law_2340 (by decide) (by omega) hL ?_
    refine l_bz (y := y) ey dL_law_2341 dL_law_2344 dL_law_2345 dL_law_2348 ?_
    refine c_VI dL_law_2349 (AM.v hM rfl) lk_L_287 rfl (isO_MO _ _ _) rfl (ltS (by omega)) ?_ (hR := (fitL (by decide) (by decide) (by omega) (by omega)))
    exact l_tail0 dL_law_2352 dL_law_2354 dL_law_2355 dL_law_2358 dL_law_2360 dL_law_2365 dL_law_2367 dL_law_2370 dL_law_2371 dL_law_2372 dL_law_2373 dL_law_2375 dL_law_2376 dL_law_2377 dL_law_2382 (by decide) (by omega) (h0C hI.c6 e18 _ _) rfl (by omega) (by omega) (hQ _ _ _ _ _ _ _ _ _ (by omega) (by omega) (by omega) (by omega) (hN.mono (by omega) (Nat.le_refl _) hcb))
  · skip
    refine wa_aload_n dL_law_2301 rfl ?_
    refine l_rd (q := 1) (x := xs (i + 1)) rfl dL_law_2302 dL_law_2303 dL_law_2305 dL_law_2306 dL_law_2307 (by decide) (by omega) hL ?_
    refine l_rd (q := 2) (x := xs (i + 2)) rfl dL_law_2308 dL_law_2309 dL_law_2311 dL_law_2312 dL_law_2313 (by decide) (by omega) hL ?_
    refine l_bz (y := y) ey dL_law_2314 dL_law_2317 dL_law_2318 dL_law_2321 ?_
    refine wa_aload_n dL_law_2322 rfl ?_
    refine wa_callW (As := [.ref 0, .int (xs (i + 1)), .int (y), .ref 277]) dL_law_2323 lk_L_285 (wl_setPresent_1 hn (vr_setPresent_1 hn hh hg _ _ h1)) rfl (by exact Nat.le_of_ble_eq_true rfl) (fitL (by decide) (by decide) (by omega) (by omega)) (by exact Nat.le_of_ble_eq_true rfl) (fun ro n' h' q _ => ?_) (fun E n' h' q _ => by cases q.1)
    obtain ⟨q1, q2, q3⟩ := q
    rw [q2, q3]
    cases q1
    refine wa_istore dL_law_2326 rfl ?_
    refine wa_aload_n dL_law_2328 rfl ?_
    refine l_rd (q := 1) (x := xs (i + 1)) rfl dL_law_2329 dL_law_2330 dL_law_2332 dL_law_2333 dL_law_2334 (by decide) (by omega) hL ?_
    refine l_rd (q := 2) (x := xs (i + 2)) rfl dL_law_2335 dL_law_2336 dL_law_2338 dL_law_2339 dL_law_2340 (by decide) (by omega) hL ?_
    refine l_bz (y := y) ey dL_law_2341 dL_law_2344 dL_law_2345 dL_law_2348 ?_
    refine c_VI dL_law_2349 (mm_setPresent_1 hn hm hg.1 (RM_of hI.c6 hI.h18) (by omega) _ _ (rk_no hm h1)) lk_L_287 rfl (isO_MO _ _ _) rfl (ltS (by omega)) ?_ (hR := (fitL (by decide) (by decide) (by omega) (by omega)))
    exact l_tailE (j := 1) dL_law_2352 dL_law_2354 dL_law_2355 dL_law_2358 dL_law_2360 dL_law_2365 (o2 := 15) dL_law_2367 dL_law_2382 (by decide) (by omega) (by decide) (by decide) (th_0 _ _) (by omega) (by omega) (hQ _ _ _ _ _ _ _ _ _ (by omega) (by omega) (by omega) (by omega) ((hI.thI 1).mono (by omega) (Nat.le_refl _) hcb))
theorem lc_override {L : Nat} {xs : Nat → Int32} {Q : ab_Q} {k z n i c : Nat} {a b c1 d : Option Value} {S : SS} {T : Int} (hi : i + 6 ≤ L) (hL : L ≤ 3072) (hI : INV T n c S) (hT0 : 0 ≤ T) (hT : T ≤ 110000) (hk : k + 80 ≤ 601024) (hz : z + 13300 ≤ 7293034) (hnb : n + 80 ≤ 900000) (hQ : LK L xs Q T n k z i) : LX L xs Q k z 2130 (lsL i a b c1 d) [] n (Hp S) := by
  have hn := hI.n
  have hh := hI.hh
  have hg := hI.gg
  have hm := hI.m
  have hcb := hI.1.2.1
  have e9 : ab_CB = 1000000 := rfl
  by_cases h1 : 0 ≤ xs (i + 1) ∧ xs (i + 1) < S.1 268 0
  · skip
    obtain ⟨r, hr, hr6, e1⟩ := hI.rnI h1
    have h1' : 0 ≤ nI r ∧ nI r < S.1 268 0 := by rw [← e1]; exact h1
    by_cases h2 : inr (xs (i + 2)) 50 300
    · skip
      by_cases h3 : inr (xs (i + 3)) 0 500
      · skip
        refine wa_aload_n dL_law_2130 rfl ?_
        refine l_rd (q := 1) (x := nI r) e1 dL_law_2131 dL_law_2132 dL_law_2134 dL_law_2135 dL_law_2136 (by decide) (by omega) hL ?_
        refine l_rd (q := 2) (x := xs (i + 2)) rfl dL_law_2137 dL_law_2138 dL_law_2140 dL_law_2141 dL_law_2142 (by decide) (by omega) hL ?_
        refine l_rd (q := 3) (x := xs (i + 3)) rfl dL_law_2143 dL_law_2144 dL_law_2146 dL_law_2147 dL_law_2148 (by decide) (by omega) hL ?_
        refine wa_aload_n dL_law_2149 rfl ?_
        refine wa_callW (As := [.ref 0, .int (nI r), .int (xs (i + 2)), .int (xs (i + 3)), .ref 277]) dL_law_2150 lk_L_278 (wl_override_0 (P := fun v' n' S' => n' = n ∧ v' = (tgt (pt (pt (S.1 268) r 8 (xs (i + 2))) r 9 (xs (i + 3))) r) ∧ ∃ S1, REM S S1 (S.1 268) c ∧ HH S' 34 (pt (pt (S.1 268) r 8 (xs (i + 2))) r 9 (xs (i + 3))) (fun _ => True) ∧ FRh 34 S1 S') hn (vr_override_0 hn hh hg hI.pp hI.c6 hI.h7 hr _ _ h2 h3) (fun r n' h' q => by obtain ⟨p1, v, S', p2, p3, S1, p4, p5, p6, p7⟩ := q; exact ⟨v, S', p2, p3, p1, p7, S1, p4, p5, p6⟩)) rfl (by exact Nat.le_of_ble_eq_true rfl) (fitL (by decide) (by decide) (by omega) (by omega)) (by exact Nat.le_of_ble_eq_true rfl) (fun ro n' h' q _ => ?_) (fun E n' h' q _ => by cases q.1)
        obtain ⟨q1, v, S', q2, -, q3, q4, S1, q5, q6, q7⟩ := q
        cases q1
        rw [q2, q3, q4]
        obtain ⟨m1, m2⟩ := hI.cm q5 q7.toc
        have e8 := m2 268 (by decide)
        have e18 : S'.1 267 18 = nI c := (congrFun (m2 267 (by decide)) 18).trans hI.h18
        have hV1 : VG T (S'.1 268) := by rw [e8]; exact hg.1
        have hM1 : RM S' := RM_of hI.c6 e18
        have hTg : T < 2147400000 := by omega
        have e8' : (so S' ((tgt (pt (pt (S.1 268) r 8 (xs (i + 2))) r 9 (xs (i + 3))) r) : Int32).toInt64).1 268 = S.1 268 := e8
        have hN : INV (T + 200) n (c5 c + 1) (so (su (f_rem (th S' 0)) 268 (pt (pt (S.1 268) r 8 (xs (i + 2))) r 9 (xs (i + 3)))) ((tgt (pt (pt (S.1 268) r 8 (xs (i + 2))) r 9 (xs (i + 3))) r) : Int32).toInt64) := (hI.chg q5 q6 q7 ((GG_pt _ (GG_pt _ hg (by decide) (fun hlt => GR_w8 (hg.2.2.2.2 r hlt) (inr_i2 h2))) (by decide) (fun hlt => GR_w9 (GR_w8 (hg.2.2.2.2 r hr) (inr_i2 h2)) (by rw [of_ptS, upd_e]; exact inr_i2 h2) (inr_i2 h3).1)).mono (by omega)) ((rn_pt _ _ _ _).trans (rn_pt _ _ _ _)) (fun j _ => ((q11_pt _ _ _ (by decide) (by decide)).tr (q11_pt _ _ _ (by decide) (by decide))) j) (by omega)).soI _
        have hM := (mm_override_0 (S := so S' (((tgt (pt (pt (S.1 268) r 8 (xs (i + 2))) r 9 (xs (i + 3))) r) : Int32).toInt64)) hn m1 hV1 hM1 hTg hr6 (xs (i + 2)) (xs (i + 3)) (rk_of m1 (by rw [e8']; exact h1')) h2 h3)
        rw [md_rem m1 hI.c6 e18 e8, e8'] at hM
        refine wa_istore dL_law_2153 rfl ?_
        refine wa_aload_n dL_law_2155 rfl ?_
        refine l_rd (q := 1) (x := nI r) e1 dL_law_2156 dL_law_2157 dL_law_2159 dL_law_2160 dL_law_2161 (by decide) (by omega) hL ?_
        refine l_rd (q := 2) (x := xs (i + 2)) rfl dL_law_2162 dL_law_2163 dL_law_2165 dL_law_2166 dL_law_2167 (by decide) (by omega) hL ?_
        refine l_rd (q := 3) (x := xs (i + 3)) rfl dL_law_2168 dL_law_2169 dL_law_2171 dL_law_2172 dL_law_2173 (by decide) (by omega) hL ?_
        refine c_VI dL_law_2174 (AM.v hM rfl) lk_L_280 rfl (isO_MO _ _ _) rfl (ltS (by omega)) ?_ (hR := (fitL (by decide) (by decide) (by omega) (by omega)))
        exact l_tail0 dL_law_2177 dL_law_2179 dL_law_2180 dL_law_2183 dL_law_2185 dL_law_2190 dL_law_2192 dL_law_2195 dL_law_2196 dL_law_2197 dL_law_2198 dL_law_2200 dL_law_2201 dL_law_2202 dL_law_2207 (by decide) (by omega) (h0C hI.c6 e18 _ _) rfl (by omega) (by omega) (hQ _ _ _ _ _ _ _ _ _ (by omega) (by omega) (by omega) (by omega) (hN.mono (by omega) (Nat.le_refl _) hcb))
      · skip
        refine wa_aload_n dL_law_2130 rfl ?_
        refine l_rd (q := 1) (x := xs (i + 1)) rfl dL_law_2131 dL_law_2132 dL_law_2134 dL_law_2135 dL_law_2136 (by decide) (by omega) hL ?_
        refine l_rd (q := 2) (x := xs (i + 2)) rfl dL_law_2137 dL_law_2138 dL_law_2140 dL_law_2141 dL_law_2142 (by decide) (by omega) hL ?_
        refine l_rd (q := 3) (x := xs (i + 3)) rfl dL_law_2143 dL_law_2144 dL_law_2146 dL_law_2147 dL_law_2148 (by decide) (by omega) hL ?_
        refine wa_aload_n dL_law_2149 rfl ?_
        refine wa_callW (As := [.ref 0, .int (xs (i + 1)), .int (xs (i + 2)), .int (xs (i + 3)), .ref 277]) dL_law_2150 lk_L_278 (wl_override_2 hn (vr_override_3 hn hh hg _ _ _ h1 h2 h3)) rfl (by exact Nat.le_of_ble_eq_true rfl) (fitL (by decide) (by decide) (by omega) (by omega)) (by exact Nat.le_of_ble_eq_true rfl) (fun ro n' h' q _ => ?_) (fun E n' h' q _ => by cases q.1)
        obtain ⟨q1, q2, q3⟩ := q
        rw [q2, q3]
        cases q1
        refine wa_istore dL_law_2153 rfl ?_
        refine wa_aload_n dL_law_2155 rfl ?_
        refine l_rd (q := 1) (x := xs (i + 1)) rfl dL_law_2156 dL_law_2157 dL_law_2159 dL_law_2160 dL_law_2161 (by decide) (by omega) hL ?_
        refine l_rd (q := 2) (x := xs (i + 2)) rfl dL_law_2162 dL_law_2163 dL_law_2165 dL_law_2166 dL_law_2167 (by decide) (by omega) hL ?_
        refine l_rd (q := 3) (x := xs (i + 3)) rfl dL_law_2168 dL_law_2169 dL_law_2171 dL_law_2172 dL_law_2173 (by decide) (by omega) hL ?_
        refine c_VI dL_law_2174 (mm_override_2 hn hm hg.1 (RM_of hI.c6 hI.h18) (by omega) _ _ _ (rk_of hm h1) (fun z => h3 z.2)) lk_L_280 rfl (isO_MO _ _ _) rfl (ltS (by omega)) ?_ (hR := (fitL (by decide) (by decide) (by omega) (by omega)))
        exact l_tailE (j := 2) dL_law_2177 dL_law_2179 dL_law_2180 dL_law_2183 dL_law_2185 dL_law_2190 (o2 := 15) dL_law_2192 dL_law_2207 (by decide) (by omega) (by decide) (by decide) (th_0 _ _) (by omega) (by omega) (hQ _ _ _ _ _ _ _ _ _ (by omega) (by omega) (by omega) (by omega) ((hI.thI 2).mono (by omega) (Nat.le_refl _) hcb))
    · skip
      refine wa_aload_n dL_law_2130 rfl ?_
      refine l_rd (q := 1) (x := xs (i + 1)) rfl dL_law_2131 dL_law_2132 dL_law_2134 dL_law_2135 dL_law_2136 (by decide) (by omega) hL ?_
      refine l_rd (q := 2) (x := xs (i + 2)) rfl dL_law_2137 dL_law_2138 dL_law_2140 dL_law_2141 dL_law_2142 (by decide) (by omega) hL ?_
      refine l_rd (q := 3) (x := xs (i + 3)) rfl dL_law_2143 dL_law_2144 dL_law_2146 dL_law_2147 dL_law_2148 (by decide) (by omega) hL ?_
      refine wa_aload_n dL_law_2149 rfl ?_
      refine wa_callW (As := [.ref 0, .int (xs (i + 1)), .int (xs (i + 2)), .int (xs (i + 3)), .ref 277]) dL_law_2150 lk_L_278 (wl_override_2 hn (vr_override_2 hn hh hg _ _ _ h1 h2)) rfl (by exact Nat.le_of_ble_eq_true rfl) (fitL (by decide) (by decide) (by omega) (by omega)) (by exact Nat.le_of_ble_eq_true rfl) (fun ro n' h' q _ => ?_) (fun E n' h' q _ => by cases q.1)
      obtain ⟨q1, q2, q3⟩ := q
      rw [q2, q3]
      cases q1
      refine wa_istore dL_law_2153 rfl ?_
      refine wa_aload_n dL_law_2155 rfl ?_
      refine l_rd (q := 1) (x := xs (i + 1)) rfl dL_law_2156 dL_law_2157 dL_law_2159 dL_law_2160 dL_law_2161 (by decide) (by omega) hL ?_
      refine l_rd (q := 2) (x := xs (i + 2)) rfl dL_law_2162 dL_law_2163 dL_law_2165 dL_law_2166 dL_law_2167 (by decide) (by omega) hL ?_
      refine l_rd (q := 3) (x := xs (i + 3)) rfl dL_law_2168 dL_law_2169 dL_law_2171 dL_law_2172 dL_law_2173 (by decide) (by omega) hL ?_
      refine c_VI dL_law_2174 (mm_override_2 hn hm hg.1 (RM_of hI.c6 hI.h18) (by omega) _ _ _ (rk_of hm h1) (fun z => h2 z.1)) lk_L_280 rfl (isO_MO _ _ _) rfl (ltS (by omega)) ?_ (hR := (fitL (by decide) (by decide) (by omega) (by omega)))
      exact l_tailE (j := 2) dL_law_2177 dL_law_2179 dL_law_2180 dL_law_2183 dL_law_2185 dL_law_2190 (o2 := 15) dL_law_2192 dL_law_2207 (by decide) (by omega) (by decide) (by decide) (th_0 _ _) (by omega) (by omega) (hQ _ _ _ _ _ _ _ _ _ (by omega) (by omega) (by omega) (by omega) ((hI.thI 2).mono (by omega) (Nat.le_refl _) hcb))
  · skip
    refine wa_aload_n dL_law_2130 rfl ?_
    refine l_rd (q := 1) (x := xs (i + 1)) rfl dL_law_2131 dL_law_2132 dL_law_2134 dL_law_2135 dL_law_2136 (by decide) (by omega) hL ?_
    refine l_rd (q := 2) (x := xs (i + 2)) rfl dL_law_2137 dL_law_2138 dL_law_2140 dL_law_2141 dL_law_2142 (by decide) (by omega) hL ?_
    refine l_rd (q := 3) (x := xs (i + 3)) rfl dL_law_2143 dL_law_2144 dL_law_2146 dL_law_2147 dL_law_2148 (by decide) (by omega) hL ?_
    refine wa_aload_n dL_law_2149 rfl ?_
    refine wa_callW (As := [.ref 0, .int (xs (i + 1)), .int (xs (i + 2)), .int (xs (i + 3)), .ref 277]) dL_law_2150 lk_L_278 (wl_override_1 hn (vr_override_1 hn hh hg _ _ _ h1)) rfl (by exact Nat.le_of_ble_eq_true rfl) (fitL (by decide) (by decide) (by omega) (by omega)) (by exact Nat.le_of_ble_eq_true rfl) (fun ro n' h' q _ => ?_) (fun E n' h' q _ => by cases q.1)
    obtain ⟨q1, q2, q3⟩ := q
    rw [q2, q3]
    cases q1
    refine wa_istore dL_law_2153 rfl ?_
    refine wa_aload_n dL_law_2155 rfl ?_
    refine l_rd (q := 1) (x := xs (i + 1)) rfl dL_law_2156 dL_law_2157 dL_law_2159 dL_law_2160 dL_law_2161 (by decide) (by omega) hL ?_
    refine l_rd (q := 2) (x := xs (i + 2)) rfl dL_law_2162 dL_law_2163 dL_law_2165 dL_law_2166 dL_law_2167 (by decide) (by omega) hL ?_
    refine l_rd (q := 3) (x := xs (i + 3)) rfl dL_law_2168 dL_law_2169 dL_law_2171 dL_law_2172 dL_law_2173 (by decide) (by omega) hL ?_
    refine c_VI dL_law_2174 (mm_override_1 hn hm hg.1 (RM_of hI.c6 hI.h18) (by omega) _ _ _ (rk_no hm h1)) lk_L_280 rfl (isO_MO _ _ _) rfl (ltS (by omega)) ?_ (hR := (fitL (by decide) (by decide) (by omega) (by omega)))
    exact l_tailE (j := 1) dL_law_2177 dL_law_2179 dL_law_2180 dL_law_2183 dL_law_2185 dL_law_2190 (o2 := 15) dL_law_2192 dL_law_2207 (by decide) (by omega) (by decide) (by decide) (th_0 _ _) (by omega) (by omega) (hQ _ _ _ _ _ _ _ _ _ (by omega) (by omega) (by omega) (by omega) ((hI.thI 1).mono (by omega) (Nat.le_refl _) hcb))
theorem lc_setProgram {L : Nat} {xs : Nat → Int32} {Q : ab_Q} {k z n i c : Nat} {a b c1 d : Option Value} {S : SS} {T : Int} (hi : i + 6 ≤ L) (hL : L ≤ 3072) (hI : INV T n c S) (hT0 : 0 ≤ T) (hT : T ≤ 110000) (hk : k + 80 ≤ 601024) (hz : z + 13300 ≤ 7293034) (hnb : n + 80 ≤ 900000) (hQ : LK L xs Q T n k z i) : LX L xs Q k z 1982 (lsL i a b c1 d) [] n (Hp S) := by
  have hn := hI.n
  have hh := hI.hh
  have hg := hI.gg
  have hm := hI.m
  have hcb := hI.1.2.1
  have e9 : ab_CB = 1000000 := rfl
  by_cases h1 : 0 ≤ xs (i + 1) ∧ xs (i + 1) < S.1 268 0
  · skip
    obtain ⟨r, hr, hr6, e1⟩ := hI.rnI h1
    have h1' : 0 ≤ nI r ∧ nI r < S.1 268 0 := by rw [← e1]; exact h1
    by_cases h2 : inr (xs (i + 2)) 0 47
    · skip
      obtain ⟨t, ht, e2⟩ := in_nI (m := 47) (by decide) h2
      have ht2 : t < 48 := by omega
      have h2' : inr (nI t) 0 47 := by rw [← e2]; exact h2
      by_cases h3 : inr (xs (i + 3)) 50 300
      · skip
        refine wa_aload_n dL_law_1982 rfl ?_
        refine l_rd (q := 1) (x := nI r) e1 dL_law_1983 dL_law_1984 dL_law_1986 dL_law_1987 dL_law_1988 (by decide) (by omega) hL ?_
        refine l_rd (q := 2) (x := nI t) e2 dL_law_1989 dL_law_1990 dL_law_1992 dL_law_1993 dL_law_1994 (by decide) (by omega) hL ?_
        refine l_rd (q := 3) (x := xs (i + 3)) rfl dL_law_1995 dL_law_1996 dL_law_1998 dL_law_1999 dL_law_2000 (by decide) (by omega) hL ?_
        refine wa_aload_n dL_law_2001 rfl ?_
        refine wa_callW (As := [.ref 0, .int (nI r), .int (nI t), .int (xs (i + 3)), .ref 277]) dL_law_2002 lk_L_272 (wl_setProgram_0 (P := fun v' n' S' => n' = n ∧ v' = (if pg (S.1 268) r t = 0 then -1 else pg (S.1 268) r t) ∧ ∃ S1, REM S S1 (S.1 268) c ∧ HH S' 34 (pt (S.1 268) r (18 + t) (xs (i + 3))) (fun _ => True) ∧ FRh 34 S1 S') hn (vr_setProgram_0 hn hh hg hI.pp hI.c6 hI.h7 hr ht2 h2' _ h3) (fun r n' h' q => by obtain ⟨p1, v, S', p2, p3, S1, p4, p5, p6, p7⟩ := q; exact ⟨v, S', p2, p3, p1, p7, S1, p4, p5, p6⟩)) rfl (by exact Nat.le_of_ble_eq_true rfl) (fitL (by decide) (by decide) (by omega) (by omega)) (by exact Nat.le_of_ble_eq_true rfl) (fun ro n' h' q _ => ?_) (fun E n' h' q _ => by cases q.1)
        obtain ⟨q1, v, S', q2, -, q3, q4, S1, q5, q6, q7⟩ := q
        cases q1
        rw [q2, q3, q4]
        obtain ⟨m1, m2⟩ := hI.cm q5 q7.toc
        have e8 := m2 268 (by decide)
        have e18 : S'.1 267 18 = nI c := (congrFun (m2 267 (by decide)) 18).trans hI.h18
        have hV1 : VG T (S'.1 268) := by rw [e8]; exact hg.1
        have hM1 : RM S' := RM_of hI.c6 e18
        have hTg : T < 2147400000 := by omega
        have e8' : (so S' ((if pg (S.1 268) r t = 0 then -1 else pg (S.1 268) r t) : Int32).toInt64).1 268 = S.1 268 := e8
        have hN : INV (T + 200) n (c5 c + 1) (so (su (f_rem (th S' 0)) 268 (pt (S.1 268) r (18 + t) (xs (i + 3)))) ((if pg (S.1 268) r t = 0 then -1 else pg (S.1 268) r t) : Int32).toInt64) := (hI.chg q5 q6 q7 ((GG_prog hg ht2 (Or.inr (inr_i2 h3))).mono (by omega)) (rn_pt _ _ _ _) (fun j _ => q11_pt _ _ _ (by omega) (by omega) j) (by omega)).soI _
        have hM := (mm_setProgram_0 (S := so S' (((if pg (S.1 268) r t = 0 then -1 else pg (S.1 268) r t) : Int32).toInt64)) hn m1 hV1 hM1 hTg hr6 ht2 (xs (i + 3)) (rk_of m1 (by rw [e8']; exact h1')) h2' h3)
        rw [md_rem m1 hI.c6 e18 e8, e8'] at hM
        refine wa_istore dL_law_2005 rfl ?_
        refine wa_aload_n dL_law_2007 rfl ?_
        refine l_rd (q := 1) (x := nI r) e1 dL_law_2008 dL_law_2009 dL_law_2011 dL_law_2012 dL_law_2013 (by decide) (by omega) hL ?_
        refine l_rd (q := 2) (x := nI t) e2 dL_law_2014 dL_law_2015 dL_law_2017 dL_law_2018 dL_law_2019 (by decide) (by omega) hL ?_
        refine l_rd (q := 3) (x := xs (i + 3)) rfl dL_law_2020 dL_law_2021 dL_law_2023 dL_law_2024 dL_law_2025 (by decide) (by omega) hL ?_
        refine c_VI dL_law_2026 (AM.v hM (show (if of (S.1 268) r (18 + t) = 0 then (-1 : Int32) else of (S.1 268) r (18 + t)) = (if pg (S.1 268) r t = 0 then -1 else pg (S.1 268) r t) from by rw [show pg (S.1 268) r t = of (S.1 268) r (18 + t) from if_pos ht2])) lk_L_274 rfl (isO_MO _ _ _) rfl (ltS (by omega)) ?_ (hR := (fitL (by decide) (by decide) (by omega) (by omega)))
        exact l_tail0 dL_law_2029 dL_law_2031 dL_law_2032 dL_law_2035 dL_law_2037 dL_law_2042 dL_law_2044 dL_law_2047 dL_law_2048 dL_law_2049 dL_law_2050 dL_law_2052 dL_law_2053 dL_law_2054 dL_law_2059 (by decide) (by omega) (h0C hI.c6 e18 _ _) rfl (by omega) (by omega) (hQ _ _ _ _ _ _ _ _ _ (by omega) (by omega) (by omega) (by omega) (hN.mono (by omega) (Nat.le_refl _) hcb))
      · skip
        refine wa_aload_n dL_law_1982 rfl ?_
        refine l_rd (q := 1) (x := xs (i + 1)) rfl dL_law_1983 dL_law_1984 dL_law_1986 dL_law_1987 dL_law_1988 (by decide) (by omega) hL ?_
        refine l_rd (q := 2) (x := xs (i + 2)) rfl dL_law_1989 dL_law_1990 dL_law_1992 dL_law_1993 dL_law_1994 (by decide) (by omega) hL ?_
        refine l_rd (q := 3) (x := xs (i + 3)) rfl dL_law_1995 dL_law_1996 dL_law_1998 dL_law_1999 dL_law_2000 (by decide) (by omega) hL ?_
        refine wa_aload_n dL_law_2001 rfl ?_
        refine wa_callW (As := [.ref 0, .int (xs (i + 1)), .int (xs (i + 2)), .int (xs (i + 3)), .ref 277]) dL_law_2002 lk_L_272 (wl_setProgram_2 hn (vr_setProgram_3 hn hh hg _ _ _ h1 h2 h3)) rfl (by exact Nat.le_of_ble_eq_true rfl) (fitL (by decide) (by decide) (by omega) (by omega)) (by exact Nat.le_of_ble_eq_true rfl) (fun ro n' h' q _ => ?_) (fun E n' h' q _ => by cases q.1)
        obtain ⟨q1, q2, q3⟩ := q
        rw [q2, q3]
        cases q1
        refine wa_istore dL_law_2005 rfl ?_
        refine wa_aload_n dL_law_2007 rfl ?_
        refine l_rd (q := 1) (x := xs (i + 1)) rfl dL_law_2008 dL_law_2009 dL_law_2011 dL_law_2012 dL_law_2013 (by decide) (by omega) hL ?_
        refine l_rd (q := 2) (x := xs (i + 2)) rfl dL_law_2014 dL_law_2015 dL_law_2017 dL_law_2018 dL_law_2019 (by decide) (by omega) hL ?_
        refine l_rd (q := 3) (x := xs (i + 3)) rfl dL_law_2020 dL_law_2021 dL_law_2023 dL_law_2024 dL_law_2025 (by decide) (by omega) hL ?_
        refine c_VI dL_law_2026 (mm_setProgram_2 hn hm hg.1 (RM_of hI.c6 hI.h18) (by omega) _ _ _ (rk_of hm h1) (fun z => h3 z.2)) lk_L_274 rfl (isO_MO _ _ _) rfl (ltS (by omega)) ?_ (hR := (fitL (by decide) (by decide) (by omega) (by omega)))
        exact l_tailE (j := 2) dL_law_2029 dL_law_2031 dL_law_2032 dL_law_2035 dL_law_2037 dL_law_2042 (o2 := 15) dL_law_2044 dL_law_2059 (by decide) (by omega) (by decide) (by decide) (th_0 _ _) (by omega) (by omega) (hQ _ _ _ _ _ _ _ _ _ (by omega) (by omega) (by omega) (by omega) ((hI.thI 2).mono (by omega) (Nat.le_refl _) hcb))
    · skip
      refine wa_aload_n dL_law_1982 rfl ?_
      refine l_rd (q := 1) (x := xs (i + 1)) rfl dL_law_1983 dL_law_1984 dL_law_1986 dL_law_1987 dL_law_1988 (by decide) (by omega) hL ?_
      refine l_rd (q := 2) (x := xs (i + 2)) rfl dL_law_1989 dL_law_1990 dL_law_1992 dL_law_1993 dL_law_1994 (by decide) (by omega) hL ?_
      refine l_rd (q := 3) (x := xs (i + 3)) rfl dL_law_1995 dL_law_1996 dL_law_1998 dL_law_1999 dL_law_2000 (by decide) (by omega) hL ?_
      refine wa_aload_n dL_law_2001 rfl ?_
      refine wa_callW (As := [.ref 0, .int (xs (i + 1)), .int (xs (i + 2)), .int (xs (i + 3)), .ref 277]) dL_law_2002 lk_L_272 (wl_setProgram_2 hn (vr_setProgram_2 hn hh hg _ _ _ h1 h2)) rfl (by exact Nat.le_of_ble_eq_true rfl) (fitL (by decide) (by decide) (by omega) (by omega)) (by exact Nat.le_of_ble_eq_true rfl) (fun ro n' h' q _ => ?_) (fun E n' h' q _ => by cases q.1)
      obtain ⟨q1, q2, q3⟩ := q
      rw [q2, q3]
      cases q1
      refine wa_istore dL_law_2005 rfl ?_
      refine wa_aload_n dL_law_2007 rfl ?_
      refine l_rd (q := 1) (x := xs (i + 1)) rfl dL_law_2008 dL_law_2009 dL_law_2011 dL_law_2012 dL_law_2013 (by decide) (by omega) hL ?_
      refine l_rd (q := 2) (x := xs (i + 2)) rfl dL_law_2014 dL_law_2015 dL_law_2017 dL_law_2018 dL_law_2019 (by decide) (by omega) hL ?_
      refine l_rd (q := 3) (x := xs (i + 3)) rfl dL_law_2020 dL_law_2021 dL_law_2023 dL_law_2024 dL_law_2025 (by decide) (by omega) hL ?_
      refine c_VI dL_law_2026 (mm_setProgram_2 hn hm hg.1 (RM_of hI.c6 hI.h18) (by omega) _ _ _ (rk_of hm h1) (fun z => h2 z.1)) lk_L_274 rfl (isO_MO _ _ _) rfl (ltS (by omega)) ?_ (hR := (fitL (by decide) (by decide) (by omega) (by omega)))
      exact l_tailE (j := 2) dL_law_2029 dL_law_2031 dL_law_2032 dL_law_2035 dL_law_2037 dL_law_2042 (o2 := 15) dL_law_2044 dL_law_2059 (by decide) (by omega) (by decide) (by decide) (th_0 _ _) (by omega) (by omega) (hQ _ _ _ _ _ _ _ _ _ (by omega) (by omega) (by omega) (by omega) ((hI.thI 2).mono (by omega) (Nat.le_refl _) hcb))
  · skip
    refine wa_aload_n dL_law_1982 rfl ?_
    refine l_rd (q := 1) (x := xs (i + 1)) rfl dL_law_1983 dL_law_1984 dL_law_1986 dL_law_1987 dL_law_1988 (by decide) (by omega) hL ?_
    refine l_rd (q := 2) (x := xs (i + 2)) rfl dL_law_1989 dL_law_1990 dL_law_1992 dL_law_1993 dL_law_1994 (by decide) (by omega) hL ?_
    refine l_rd (q := 3) (x := xs (i + 3)) rfl dL_law_1995 dL_law_1996 dL_law_1998 dL_law_1999 dL_law_2000 (by decide) (by omega) hL ?_
    refine wa_aload_n dL_law_2001 rfl ?_
    refine wa_callW (As := [.ref 0, .int (xs (i + 1)), .int (xs (i + 2)), .int (xs (i + 3)), .ref 277]) dL_law_2002 lk_L_272 (wl_setProgram_1 hn (vr_setProgram_1 hn hh hg _ _ _ h1)) rfl (by exact Nat.le_of_ble_eq_true rfl) (fitL (by decide) (by decide) (by omega) (by omega)) (by exact Nat.le_of_ble_eq_true rfl) (fun ro n' h' q _ => ?_) (fun E n' h' q _ => by cases q.1)
    obtain ⟨q1, q2, q3⟩ := q
    rw [q2, q3]
    cases q1
    refine wa_istore dL_law_2005 rfl ?_
    refine wa_aload_n dL_law_2007 rfl ?_
    refine l_rd (q := 1) (x := xs (i + 1)) rfl dL_law_2008 dL_law_2009 dL_law_2011 dL_law_2012 dL_law_2013 (by decide) (by omega) hL ?_
    refine l_rd (q := 2) (x := xs (i + 2)) rfl dL_law_2014 dL_law_2015 dL_law_2017 dL_law_2018 dL_law_2019 (by decide) (by omega) hL ?_
    refine l_rd (q := 3) (x := xs (i + 3)) rfl dL_law_2020 dL_law_2021 dL_law_2023 dL_law_2024 dL_law_2025 (by decide) (by omega) hL ?_
    refine c_VI dL_law_2026 (mm_setProgram_1 hn hm hg.1 (RM_of hI.c6 hI.h18) (by omega) _ _ _ (rk_no hm h1)) lk_L_274 rfl (isO_MO _ _ _) rfl (ltS (by omega)) ?_ (hR := (fitL (by decide) (by decide) (by omega) (by omega)))
    exact l_tailE (j := 1) dL_law_2029 dL_law_2031 dL_law_2032 dL_law_2035 dL_law_2037 dL_law_2042 (o2 := 15) dL_law_2044 dL_law_2059 (by decide) (by omega) (by decide) (by decide) (th_0 _ _) (by omega) (by omega) (hQ _ _ _ _ _ _ _ _ _ (by omega) (by omega) (by omega) (by omega) ((hI.thI 1).mono (by omega) (Nat.le_refl _) hcb))
theorem lc_clearProgram {L : Nat} {xs : Nat → Int32} {Q : ab_Q} {k z n i c : Nat} {a b c1 d : Option Value} {S : SS} {T : Int} (hi : i + 6 ≤ L) (hL : L ≤ 3072) (hI : INV T n c S) (hT0 : 0 ≤ T) (hT : T ≤ 110000) (hk : k + 80 ≤ 601024) (hz : z + 13300 ≤ 7293034) (hnb : n + 80 ≤ 900000) (hQ : LK L xs Q T n k z i) : LX L xs Q k z 2062 (lsL i a b c1 d) [] n (Hp S) := by
  have hn := hI.n
  have hh := hI.hh
  have hg := hI.gg
  have hm := hI.m
  have hcb := hI.1.2.1
  have e9 : ab_CB = 1000000 := rfl
  by_cases h1 : 0 ≤ xs (i + 1) ∧ xs (i + 1) < S.1 268 0
  · skip
    obtain ⟨r, hr, hr6, e1⟩ := hI.rnI h1
    have h1' : 0 ≤ nI r ∧ nI r < S.1 268 0 := by rw [← e1]; exact h1
    by_cases h2 : inr (xs (i + 2)) 0 47
    · skip
      obtain ⟨t, ht, e2⟩ := in_nI (m := 47) (by decide) h2
      have ht2 : t < 48 := by omega
      have h2' : inr (nI t) 0 47 := by rw [← e2]; exact h2
      by_cases h3 : pg (S.1 268) r t = 0
      · skip
        refine wa_aload_n dL_law_2062 rfl ?_
        refine l_rd (q := 1) (x := nI r) e1 dL_law_2063 dL_law_2064 dL_law_2066 dL_law_2067 dL_law_2068 (by decide) (by omega) hL ?_
        refine l_rd (q := 2) (x := nI t) e2 dL_law_2069 dL_law_2070 dL_law_2072 dL_law_2073 dL_law_2074 (by decide) (by omega) hL ?_
        refine wa_aload_n dL_law_2075 rfl ?_
        refine wa_callW (As := [.ref 0, .int (nI r), .int (nI t), .ref 277]) dL_law_2076 lk_L_275 (wl_clearProgram_3 hn (vr_clearProgram_3 hn hh hg hr ht2 h2' h3)) rfl (by exact Nat.le_of_ble_eq_true rfl) (fitL (by decide) (by decide) (by omega) (by omega)) (by exact Nat.le_of_ble_eq_true rfl) (fun ro n' h' q _ => ?_) (fun E n' h' q _ => by cases q.1)
        obtain ⟨q1, q2, q3⟩ := q
        rw [q2, q3]
        cases q1
        refine wa_istore dL_law_2079 rfl ?_
        refine wa_aload_n dL_law_2081 rfl ?_
        refine l_rd (q := 1) (x := nI r) e1 dL_law_2082 dL_law_2083 dL_law_2085 dL_law_2086 dL_law_2087 (by decide) (by omega) hL ?_
        refine l_rd (q := 2) (x := nI t) e2 dL_law_2088 dL_law_2089 dL_law_2091 dL_law_2092 dL_law_2093 (by decide) (by omega) hL ?_
        refine c_VI dL_law_2094 (mm_clearProgram_3 hn hm hg.1 hr6 ht2 (rk_of hm h1') h2' h3) lk_L_277 rfl (isO_MO _ _ _) rfl (ltS (by omega)) ?_ (hR := (fitL (by decide) (by decide) (by omega) (by omega)))
        exact l_tailE (j := 3) dL_law_2097 dL_law_2099 dL_law_2100 dL_law_2103 dL_law_2105 dL_law_2110 (o2 := 15) dL_law_2112 dL_law_2127 (by decide) (by omega) (by decide) (by decide) (th_0 _ _) (by omega) (by omega) (hQ _ _ _ _ _ _ _ _ _ (by omega) (by omega) (by omega) (by omega) ((hI.thI 3).mono (by omega) (Nat.le_refl _) hcb))
      · skip
        refine wa_aload_n dL_law_2062 rfl ?_
        refine l_rd (q := 1) (x := nI r) e1 dL_law_2063 dL_law_2064 dL_law_2066 dL_law_2067 dL_law_2068 (by decide) (by omega) hL ?_
        refine l_rd (q := 2) (x := nI t) e2 dL_law_2069 dL_law_2070 dL_law_2072 dL_law_2073 dL_law_2074 (by decide) (by omega) hL ?_
        refine wa_aload_n dL_law_2075 rfl ?_
        refine wa_callW (As := [.ref 0, .int (nI r), .int (nI t), .ref 277]) dL_law_2076 lk_L_275 (wl_clearProgram_0 (P := fun v' n' S' => n' = n ∧ v' = (nI (cnt (pg (pt (S.1 268) r (18 + t) 0) r) 48)) ∧ ∃ S1, REM S S1 (S.1 268) c ∧ HH S' 34 (pt (S.1 268) r (18 + t) 0) (fun _ => True) ∧ FRh 34 S1 S') hn (vr_clearProgram_0 hn hh hg hI.pp hI.c6 hI.h7 hr ht2 h2' h3) (fun r n' h' q => by obtain ⟨p1, v, S', p2, p3, S1, p4, p5, p6, p7⟩ := q; exact ⟨v, S', p2, p3, p1, p7, S1, p4, p5, p6⟩)) rfl (by exact Nat.le_of_ble_eq_true rfl) (fitL (by decide) (by decide) (by omega) (by omega)) (by exact Nat.le_of_ble_eq_true rfl) (fun ro n' h' q _ => ?_) (fun E n' h' q _ => by cases q.1)
        obtain ⟨q1, v, S', q2, -, q3, q4, S1, q5, q6, q7⟩ := q
        cases q1
        rw [q2, q3, q4]
        obtain ⟨m1, m2⟩ := hI.cm q5 q7.toc
        have e8 := m2 268 (by decide)
        have e18 : S'.1 267 18 = nI c := (congrFun (m2 267 (by decide)) 18).trans hI.h18
        have hV1 : VG T (S'.1 268) := by rw [e8]; exact hg.1
        have hM1 : RM S' := RM_of hI.c6 e18
        have hTg : T < 2147400000 := by omega
        have e8' : (so S' ((nI (cnt (pg (pt (S.1 268) r (18 + t) 0) r) 48)) : Int32).toInt64).1 268 = S.1 268 := e8
        have hN : INV (T + 200) n (c5 c + 1) (so (su (f_rem (th S' 0)) 268 (pt (S.1 268) r (18 + t) 0)) ((nI (cnt (pg (pt (S.1 268) r (18 + t) 0) r) 48)) : Int32).toInt64) := (hI.chg q5 q6 q7 ((GG_prog hg ht2 (Or.inl rfl)).mono (by omega)) (rn_pt _ _ _ _) (fun j _ => q11_pt _ _ _ (by omega) (by omega) j) (by omega)).soI _
        have hM := (mm_clearProgram_0 (S := so S' (((nI (cnt (pg (pt (S.1 268) r (18 + t) 0) r) 48)) : Int32).toInt64)) hn m1 hV1 hM1 hTg hr6 ht2 (rk_of m1 (by rw [e8']; exact h1')) h2' (by rw [e8']; exact h3))
        rw [md_rem m1 hI.c6 e18 e8, e8'] at hM
        refine wa_istore dL_law_2079 rfl ?_
        refine wa_aload_n dL_law_2081 rfl ?_
        refine l_rd (q := 1) (x := nI r) e1 dL_law_2082 dL_law_2083 dL_law_2085 dL_law_2086 dL_law_2087 (by decide) (by omega) hL ?_
        refine l_rd (q := 2) (x := nI t) e2 dL_law_2088 dL_law_2089 dL_law_2091 dL_law_2092 dL_law_2093 (by decide) (by omega) hL ?_
        refine c_VI dL_law_2094 (AM.v hM rfl) lk_L_277 rfl (isO_MO _ _ _) rfl (ltS (by omega)) ?_ (hR := (fitL (by decide) (by decide) (by omega) (by omega)))
        exact l_tail0 dL_law_2097 dL_law_2099 dL_law_2100 dL_law_2103 dL_law_2105 dL_law_2110 dL_law_2112 dL_law_2115 dL_law_2116 dL_law_2117 dL_law_2118 dL_law_2120 dL_law_2121 dL_law_2122 dL_law_2127 (by decide) (by omega) (h0C hI.c6 e18 _ _) rfl (by omega) (by omega) (hQ _ _ _ _ _ _ _ _ _ (by omega) (by omega) (by omega) (by omega) (hN.mono (by omega) (Nat.le_refl _) hcb))
    · skip
      refine wa_aload_n dL_law_2062 rfl ?_
      refine l_rd (q := 1) (x := xs (i + 1)) rfl dL_law_2063 dL_law_2064 dL_law_2066 dL_law_2067 dL_law_2068 (by decide) (by omega) hL ?_
      refine l_rd (q := 2) (x := xs (i + 2)) rfl dL_law_2069 dL_law_2070 dL_law_2072 dL_law_2073 dL_law_2074 (by decide) (by omega) hL ?_
      refine wa_aload_n dL_law_2075 rfl ?_
      refine wa_callW (As := [.ref 0, .int (xs (i + 1)), .int (xs (i + 2)), .ref 277]) dL_law_2076 lk_L_275 (wl_clearProgram_2 hn (vr_clearProgram_2 hn hh hg _ _ h1 h2)) rfl (by exact Nat.le_of_ble_eq_true rfl) (fitL (by decide) (by decide) (by omega) (by omega)) (by exact Nat.le_of_ble_eq_true rfl) (fun ro n' h' q _ => ?_) (fun E n' h' q _ => by cases q.1)
      obtain ⟨q1, q2, q3⟩ := q
      rw [q2, q3]
      cases q1
      refine wa_istore dL_law_2079 rfl ?_
      refine wa_aload_n dL_law_2081 rfl ?_
      refine l_rd (q := 1) (x := xs (i + 1)) rfl dL_law_2082 dL_law_2083 dL_law_2085 dL_law_2086 dL_law_2087 (by decide) (by omega) hL ?_
      refine l_rd (q := 2) (x := xs (i + 2)) rfl dL_law_2088 dL_law_2089 dL_law_2091 dL_law_2092 dL_law_2093 (by decide) (by omega) hL ?_
      refine c_VI dL_law_2094 (mm_clearProgram_2 hn hm hg.1 _ _ (rk_of hm h1) h2) lk_L_277 rfl (isO_MO _ _ _) rfl (ltS (by omega)) ?_ (hR := (fitL (by decide) (by decide) (by omega) (by omega)))
      exact l_tailE (j := 2) dL_law_2097 dL_law_2099 dL_law_2100 dL_law_2103 dL_law_2105 dL_law_2110 (o2 := 15) dL_law_2112 dL_law_2127 (by decide) (by omega) (by decide) (by decide) (th_0 _ _) (by omega) (by omega) (hQ _ _ _ _ _ _ _ _ _ (by omega) (by omega) (by omega) (by omega) ((hI.thI 2).mono (by omega) (Nat.le_refl _) hcb))
  · skip
    refine wa_aload_n dL_law_2062 rfl ?_
    refine l_rd (q := 1) (x := xs (i + 1)) rfl dL_law_2063 dL_law_2064 dL_law_2066 dL_law_2067 dL_law_2068 (by decide) (by omega) hL ?_
    refine l_rd (q := 2) (x := xs (i + 2)) rfl dL_law_2069 dL_law_2070 dL_law_2072 dL_law_2073 dL_law_2074 (by decide) (by omega) hL ?_
    refine wa_aload_n dL_law_2075 rfl ?_
    refine wa_callW (As := [.ref 0, .int (xs (i + 1)), .int (xs (i + 2)), .ref 277]) dL_law_2076 lk_L_275 (wl_clearProgram_1 hn (vr_clearProgram_1 hn hh hg _ _ h1)) rfl (by exact Nat.le_of_ble_eq_true rfl) (fitL (by decide) (by decide) (by omega) (by omega)) (by exact Nat.le_of_ble_eq_true rfl) (fun ro n' h' q _ => ?_) (fun E n' h' q _ => by cases q.1)
    obtain ⟨q1, q2, q3⟩ := q
    rw [q2, q3]
    cases q1
    refine wa_istore dL_law_2079 rfl ?_
    refine wa_aload_n dL_law_2081 rfl ?_
    refine l_rd (q := 1) (x := xs (i + 1)) rfl dL_law_2082 dL_law_2083 dL_law_2085 dL_law_2086 dL_law_2087 (by decide) (by omega) hL ?_
    refine l_rd (q := 2) (x := xs (i + 2)) rfl dL_law_2088 dL_law_2089 dL_law_2091 dL_law_2092 dL_law_2093 (by decide) (by omega) hL ?_
    refine c_VI dL_law_2094 (mm_clearProgram_1 hn hm hg.1 _ _ (rk_no hm h1)) lk_L_277 rfl (isO_MO _ _ _) rfl (ltS (by omega)) ?_ (hR := (fitL (by decide) (by decide) (by omega) (by omega)))
    exact l_tailE (j := 1) dL_law_2097 dL_law_2099 dL_law_2100 dL_law_2103 dL_law_2105 dL_law_2110 (o2 := 15) dL_law_2112 dL_law_2127 (by decide) (by omega) (by decide) (by decide) (th_0 _ _) (by omega) (by omega) (hQ _ _ _ _ _ _ _ _ _ (by omega) (by omega) (by omega) (by omega) ((hI.thI 1).mono (by omega) (Nat.le_refl _) hcb))
theorem lc_plan {L : Nat} {xs : Nat → Int32} {Q : ab_Q} {k z n i c : Nat} {a b c1 d : Option Value} {S : SS} {T : Int} (hi : i + 6 ≤ L) (hL : L ≤ 3072) (hI : INV T n c S) (hT0 : 0 ≤ T) (hT : T ≤ 110000) (hk : k + 80 ≤ 601024) (hz : z + 13300 ≤ 7293034) (hnb : n + 80 ≤ 900000) (hQ : LK L xs Q T n k z i) : LX L xs Q k z 2385 (lsL i a b c1 d) [] n (Hp S) := by
  have hn := hI.n
  have hh := hI.hh
  have hg := hI.gg
  have hm := hI.m
  have hcb := hI.1.2.1
  have e9 : ab_CB = 1000000 := rfl
  by_cases h1 : 0 ≤ xs (i + 2) ∧ xs (i + 2) < S.1 268 0
  · skip
    obtain ⟨r, hr, hr6, e1⟩ := hI.rnI h1
    by_cases h2 : inr (xs (i + 1)) (S.1 268 1 + 1) (S.1 268 1 + 9999)
    · skip
      by_cases h3 : inr (xs (i + 3)) 0 3
      · skip
        by_cases h4 : S.1 268 3 < 20
        · skip
          have hpn : pn (S.1 268) < 20 := by
            have h5 := h4
            rw [hg.e3, Int32.lt_iff_toInt_lt, nI_toInt (by have := hg.pn20; omega)] at h5
            have : (20 : Int32).toInt = 20 := by decide
            omega
          have ht0 := pl_t0 hg.t0 (by have := hg.tT; omega) h2
          have hGG : GG T (f_plan (xs (i + 1)) (xs (i + 2)) (xs (i + 3)) (S.1 268)) := by
            rw [e1]
            exact GG_plan hg hpn hr ht0 ⟨(inr_i2 h3).1, by have h33 := (inr_i2 h3).2; rw [(by decide : (3 : Int32).toInt = 3)] at h33; omega⟩
          refine wa_aload_n dL_law_2385 rfl ?_
          refine l_rd (q := 1) (x := xs (i + 1)) rfl dL_law_2386 dL_law_2387 dL_law_2389 dL_law_2390 dL_law_2391 (by decide) (by omega) hL ?_
          refine l_rd (q := 2) (x := xs (i + 2)) rfl dL_law_2392 dL_law_2393 dL_law_2395 dL_law_2396 dL_law_2397 (by decide) (by omega) hL ?_
          refine l_rd (q := 3) (x := xs (i + 3)) rfl dL_law_2398 dL_law_2399 dL_law_2401 dL_law_2402 dL_law_2403 (by decide) (by omega) hL ?_
          refine wa_aload_n dL_law_2404 rfl ?_
          refine wa_callW (As := [.ref 0, .int (xs (i + 1)), .int (xs (i + 2)), .int (xs (i + 3)), .ref 277]) dL_law_2405 lk_L_288 (wl_plan_0 (P := fun v' n' S' => n' = n ∧ v' = (nI (ipos (S.1 268) (xs (i + 1)) (pn (S.1 268)))) ∧ ∃ S1, REM S S1 (S.1 268) c ∧ HH S' 34 (f_plan (xs (i + 1)) (xs (i + 2)) (xs (i + 3)) (S.1 268)) (fun _ => True) ∧ FRh 34 S1 S') hn (vr_plan_0 hn hh hg hI.pp hI.c6 hI.h7 _ _ _ h1 h2 h3 h4) (fun r n' h' q => by obtain ⟨p1, v, S', p2, p3, S1, p4, p5, p6, p7⟩ := q; exact ⟨v, S', p2, p3, p1, p7, S1, p4, p5, p6⟩)) rfl (by exact Nat.le_of_ble_eq_true rfl) (fitL (by decide) (by decide) (by omega) (by omega)) (by exact Nat.le_of_ble_eq_true rfl) (fun ro n' h' q _ => ?_) (fun E n' h' q _ => by cases q.1)
          obtain ⟨q1, v, S', q2, -, q3, q4, S1, q5, q6, q7⟩ := q
          cases q1
          rw [q2, q3, q4]
          obtain ⟨m1, m2⟩ := hI.cm q5 q7.toc
          have e8 := m2 268 (by decide)
          have e18 : S'.1 267 18 = nI c := (congrFun (m2 267 (by decide)) 18).trans hI.h18
          have hV1 : VG T (S'.1 268) := by rw [e8]; exact hg.1
          have hM1 : RM S' := RM_of hI.c6 e18
          have hTg : T < 2147400000 := by omega
          have e8' : (so S' ((nI (ipos (S.1 268) (xs (i + 1)) (pn (S.1 268)))) : Int32).toInt64).1 268 = S.1 268 := e8
          have hN : INV (T + 200) n (c5 c + 1) (so (su (f_rem (th S' 0)) 268 (f_plan (xs (i + 1)) (xs (i + 2)) (xs (i + 3)) (S.1 268))) ((nI (ipos (S.1 268) (xs (i + 1)) (pn (S.1 268)))) : Int32).toInt64) := (hI.chg q5 q6 q7 (hGG.mono (by omega)) (rn_plan _ _ _ _) (fun j _ => q11_plan _ _ _ hpn (ipos_le _ _ _) j) (by omega)).soI _
          have hM := (mm_plan_0 (S := so S' (((nI (ipos (S.1 268) (xs (i + 1)) (pn (S.1 268)))) : Int32).toInt64)) hn m1 hV1 hM1 hTg _ _ _ (rk_of m1 (by rw [e8']; exact h1)) (by rw [e8']; exact h2) h3 (by rw [e8']; exact h4))
          rw [md_rem m1 hI.c6 e18 e8, e8'] at hM
          refine wa_istore dL_law_2408 rfl ?_
          refine wa_aload_n dL_law_2410 rfl ?_
          refine l_rd (q := 1) (x := xs (i + 1)) rfl dL_law_2411 dL_law_2412 dL_law_2414 dL_law_2415 dL_law_2416 (by decide) (by omega) hL ?_
          refine l_rd (q := 2) (x := xs (i + 2)) rfl dL_law_2417 dL_law_2418 dL_law_2420 dL_law_2421 dL_law_2422 (by decide) (by omega) hL ?_
          refine l_rd (q := 3) (x := xs (i + 3)) rfl dL_law_2423 dL_law_2424 dL_law_2426 dL_law_2427 dL_law_2428 (by decide) (by omega) hL ?_
          refine c_VI dL_law_2429 (AM.v hM rfl) lk_L_290 rfl (isO_MO _ _ _) rfl (ltS (by omega)) ?_ (hR := (fitL (by decide) (by decide) (by omega) (by omega)))
          exact l_tail0 dL_law_2432 dL_law_2434 dL_law_2435 dL_law_2438 dL_law_2440 dL_law_2445 dL_law_2447 dL_law_2450 dL_law_2451 dL_law_2452 dL_law_2453 dL_law_2455 dL_law_2456 dL_law_2457 dL_law_2462 (by decide) (by omega) (h0C hI.c6 e18 _ _) rfl (by omega) (by omega) (hQ _ _ _ _ _ _ _ _ _ (by omega) (by omega) (by omega) (by omega) (hN.mono (by omega) (Nat.le_refl _) hcb))
        · skip
          refine wa_aload_n dL_law_2385 rfl ?_
          refine l_rd (q := 1) (x := xs (i + 1)) rfl dL_law_2386 dL_law_2387 dL_law_2389 dL_law_2390 dL_law_2391 (by decide) (by omega) hL ?_
          refine l_rd (q := 2) (x := xs (i + 2)) rfl dL_law_2392 dL_law_2393 dL_law_2395 dL_law_2396 dL_law_2397 (by decide) (by omega) hL ?_
          refine l_rd (q := 3) (x := xs (i + 3)) rfl dL_law_2398 dL_law_2399 dL_law_2401 dL_law_2402 dL_law_2403 (by decide) (by omega) hL ?_
          refine wa_aload_n dL_law_2404 rfl ?_
          refine wa_callW (As := [.ref 0, .int (xs (i + 1)), .int (xs (i + 2)), .int (xs (i + 3)), .ref 277]) dL_law_2405 lk_L_288 (wl_plan_3 hn (vr_plan_4 hn hh hg _ _ _ h1 h2 h3 h4)) rfl (by exact Nat.le_of_ble_eq_true rfl) (fitL (by decide) (by decide) (by omega) (by omega)) (by exact Nat.le_of_ble_eq_true rfl) (fun ro n' h' q _ => ?_) (fun E n' h' q _ => by cases q.1)
          obtain ⟨q1, q2, q3⟩ := q
          rw [q2, q3]
          cases q1
          refine wa_istore dL_law_2408 rfl ?_
          refine wa_aload_n dL_law_2410 rfl ?_
          refine l_rd (q := 1) (x := xs (i + 1)) rfl dL_law_2411 dL_law_2412 dL_law_2414 dL_law_2415 dL_law_2416 (by decide) (by omega) hL ?_
          refine l_rd (q := 2) (x := xs (i + 2)) rfl dL_law_2417 dL_law_2418 dL_law_2420 dL_law_2421 dL_law_2422 (by decide) (by omega) hL ?_
          refine l_rd (q := 3) (x := xs (i + 3)) rfl dL_law_2423 dL_law_2424 dL_law_2426 dL_law_2427 dL_law_2428 (by decide) (by omega) hL ?_
          refine c_VI dL_law_2429 (mm_plan_3 hn hm hg.1 (by omega) _ _ _ (rk_of hm h1) h2 h3 h4) lk_L_290 rfl (isO_MO _ _ _) rfl (ltS (by omega)) ?_ (hR := (fitL (by decide) (by decide) (by omega) (by omega)))
          exact l_tailE (j := 3) dL_law_2432 dL_law_2434 dL_law_2435 dL_law_2438 dL_law_2440 dL_law_2445 (o2 := 15) dL_law_2447 dL_law_2462 (by decide) (by omega) (by decide) (by decide) (th_0 _ _) (by omega) (by omega) (hQ _ _ _ _ _ _ _ _ _ (by omega) (by omega) (by omega) (by omega) ((hI.thI 3).mono (by omega) (Nat.le_refl _) hcb))
      · skip
        refine wa_aload_n dL_law_2385 rfl ?_
        refine l_rd (q := 1) (x := xs (i + 1)) rfl dL_law_2386 dL_law_2387 dL_law_2389 dL_law_2390 dL_law_2391 (by decide) (by omega) hL ?_
        refine l_rd (q := 2) (x := xs (i + 2)) rfl dL_law_2392 dL_law_2393 dL_law_2395 dL_law_2396 dL_law_2397 (by decide) (by omega) hL ?_
        refine l_rd (q := 3) (x := xs (i + 3)) rfl dL_law_2398 dL_law_2399 dL_law_2401 dL_law_2402 dL_law_2403 (by decide) (by omega) hL ?_
        refine wa_aload_n dL_law_2404 rfl ?_
        refine wa_callW (As := [.ref 0, .int (xs (i + 1)), .int (xs (i + 2)), .int (xs (i + 3)), .ref 277]) dL_law_2405 lk_L_288 (wl_plan_2 hn (vr_plan_3 hn hh hg _ _ _ h1 h2 h3)) rfl (by exact Nat.le_of_ble_eq_true rfl) (fitL (by decide) (by decide) (by omega) (by omega)) (by exact Nat.le_of_ble_eq_true rfl) (fun ro n' h' q _ => ?_) (fun E n' h' q _ => by cases q.1)
        obtain ⟨q1, q2, q3⟩ := q
        rw [q2, q3]
        cases q1
        refine wa_istore dL_law_2408 rfl ?_
        refine wa_aload_n dL_law_2410 rfl ?_
        refine l_rd (q := 1) (x := xs (i + 1)) rfl dL_law_2411 dL_law_2412 dL_law_2414 dL_law_2415 dL_law_2416 (by decide) (by omega) hL ?_
        refine l_rd (q := 2) (x := xs (i + 2)) rfl dL_law_2417 dL_law_2418 dL_law_2420 dL_law_2421 dL_law_2422 (by decide) (by omega) hL ?_
        refine l_rd (q := 3) (x := xs (i + 3)) rfl dL_law_2423 dL_law_2424 dL_law_2426 dL_law_2427 dL_law_2428 (by decide) (by omega) hL ?_
        refine c_VI dL_law_2429 (mm_plan_2 hn hm hg.1 (by omega) _ _ _ (rk_of hm h1) (fun z => h3 z.2)) lk_L_290 rfl (isO_MO _ _ _) rfl (ltS (by omega)) ?_ (hR := (fitL (by decide) (by decide) (by omega) (by omega)))
        exact l_tailE (j := 2) dL_law_2432 dL_law_2434 dL_law_2435 dL_law_2438 dL_law_2440 dL_law_2445 (o2 := 15) dL_law_2447 dL_law_2462 (by decide) (by omega) (by decide) (by decide) (th_0 _ _) (by omega) (by omega) (hQ _ _ _ _ _ _ _ _ _ (by omega) (by omega) (by omega) (by omega) ((hI.thI 2).mono (by omega) (Nat.le_refl _) hcb))
    · skip
      refine wa_aload_n dL_law_2385 rfl ?_
      refine l_rd (q := 1) (x := xs (i + 1)) rfl dL_law_2386 dL_law_2387 dL_law_2389 dL_law_2390 dL_law_2391 (by decide) (by omega) hL ?_
      refine l_rd (q := 2) (x := xs (i + 2)) rfl dL_law_2392 dL_law_2393 dL_law_2395 dL_law_2396 dL_law_2397 (by decide) (by omega) hL ?_
      refine l_rd (q := 3) (x := xs (i + 3)) rfl dL_law_2398 dL_law_2399 dL_law_2401 dL_law_2402 dL_law_2403 (by decide) (by omega) hL ?_
      refine wa_aload_n dL_law_2404 rfl ?_
      refine wa_callW (As := [.ref 0, .int (xs (i + 1)), .int (xs (i + 2)), .int (xs (i + 3)), .ref 277]) dL_law_2405 lk_L_288 (wl_plan_2 hn (vr_plan_2 hn hh hg _ _ _ h1 h2)) rfl (by exact Nat.le_of_ble_eq_true rfl) (fitL (by decide) (by decide) (by omega) (by omega)) (by exact Nat.le_of_ble_eq_true rfl) (fun ro n' h' q _ => ?_) (fun E n' h' q _ => by cases q.1)
      obtain ⟨q1, q2, q3⟩ := q
      rw [q2, q3]
      cases q1
      refine wa_istore dL_law_2408 rfl ?_
      refine wa_aload_n dL_law_2410 rfl ?_
      refine l_rd (q := 1) (x := xs (i + 1)) rfl dL_law_2411 dL_law_2412 dL_law_2414 dL_law_2415 dL_law_2416 (by decide) (by omega) hL ?_
      refine l_rd (q := 2) (x := xs (i + 2)) rfl dL_law_2417 dL_law_2418 dL_law_2420 dL_law_2421 dL_law_2422 (by decide) (by omega) hL ?_
      refine l_rd (q := 3) (x := xs (i + 3)) rfl dL_law_2423 dL_law_2424 dL_law_2426 dL_law_2427 dL_law_2428 (by decide) (by omega) hL ?_
      refine c_VI dL_law_2429 (mm_plan_2 hn hm hg.1 (by omega) _ _ _ (rk_of hm h1) (fun z => h2 z.1)) lk_L_290 rfl (isO_MO _ _ _) rfl (ltS (by omega)) ?_ (hR := (fitL (by decide) (by decide) (by omega) (by omega)))
      exact l_tailE (j := 2) dL_law_2432 dL_law_2434 dL_law_2435 dL_law_2438 dL_law_2440 dL_law_2445 (o2 := 15) dL_law_2447 dL_law_2462 (by decide) (by omega) (by decide) (by decide) (th_0 _ _) (by omega) (by omega) (hQ _ _ _ _ _ _ _ _ _ (by omega) (by omega) (by omega) (by omega) ((hI.thI 2).mono (by omega) (Nat.le_refl _) hcb))
  · skip
    refine wa_aload_n dL_law_2385 rfl ?_
    refine l_rd (q := 1) (x := xs (i + 1)) rfl dL_law_2386 dL_law_2387 dL_law_2389 dL_law_2390 dL_law_2391 (by decide) (by omega) hL ?_
    refine l_rd (q := 2) (x := xs (i + 2)) rfl dL_law_2392 dL_law_2393 dL_law_2395 dL_law_2396 dL_law_2397 (by decide) (by omega) hL ?_
    refine l_rd (q := 3) (x := xs (i + 3)) rfl dL_law_2398 dL_law_2399 dL_law_2401 dL_law_2402 dL_law_2403 (by decide) (by omega) hL ?_
    refine wa_aload_n dL_law_2404 rfl ?_
    refine wa_callW (As := [.ref 0, .int (xs (i + 1)), .int (xs (i + 2)), .int (xs (i + 3)), .ref 277]) dL_law_2405 lk_L_288 (wl_plan_1 hn (vr_plan_1 hn hh hg _ _ _ h1)) rfl (by exact Nat.le_of_ble_eq_true rfl) (fitL (by decide) (by decide) (by omega) (by omega)) (by exact Nat.le_of_ble_eq_true rfl) (fun ro n' h' q _ => ?_) (fun E n' h' q _ => by cases q.1)
    obtain ⟨q1, q2, q3⟩ := q
    rw [q2, q3]
    cases q1
    refine wa_istore dL_law_2408 rfl ?_
    refine wa_aload_n dL_law_2410 rfl ?_
    refine l_rd (q := 1) (x := xs (i + 1)) rfl dL_law_2411 dL_law_2412 dL_law_2414 dL_law_2415 dL_law_2416 (by decide) (by omega) hL ?_
    refine l_rd (q := 2) (x := xs (i + 2)) rfl dL_law_2417 dL_law_2418 dL_law_2420 dL_law_2421 dL_law_2422 (by decide) (by omega) hL ?_
    refine l_rd (q := 3) (x := xs (i + 3)) rfl dL_law_2423 dL_law_2424 dL_law_2426 dL_law_2427 dL_law_2428 (by decide) (by omega) hL ?_
    refine c_VI dL_law_2429 (mm_plan_1 hn hm hg.1 (by omega) _ _ _ (rk_no hm h1)) lk_L_290 rfl (isO_MO _ _ _) rfl (ltS (by omega)) ?_ (hR := (fitL (by decide) (by decide) (by omega) (by omega)))
    exact l_tailE (j := 1) dL_law_2432 dL_law_2434 dL_law_2435 dL_law_2438 dL_law_2440 dL_law_2445 (o2 := 15) dL_law_2447 dL_law_2462 (by decide) (by omega) (by decide) (by decide) (th_0 _ _) (by omega) (by omega) (hQ _ _ _ _ _ _ _ _ _ (by omega) (by omega) (by omega) (by omega) ((hI.thI 1).mono (by omega) (Nat.le_refl _) hcb))
theorem lc_dropPlan {L : Nat} {xs : Nat → Int32} {Q : ab_Q} {k z n i c : Nat} {a b c1 d : Option Value} {S : SS} {T : Int} (hi : i + 6 ≤ L) (hL : L ≤ 3072) (hI : INV T n c S) (hT0 : 0 ≤ T) (hT : T ≤ 110000) (hk : k + 80 ≤ 601024) (hz : z + 13300 ≤ 7293034) (hnb : n + 80 ≤ 900000) (hQ : LK L xs Q T n k z i) : LX L xs Q k z 2465 (lsL i a b c1 d) [] n (Hp S) := by
  have hn := hI.n
  have hh := hI.hh
  have hg := hI.gg
  have hm := hI.m
  have hcb := hI.1.2.1
  have e9 : ab_CB = 1000000 := rfl
  have h20 := hg.pn20
  have hpl := pl_iff (x := xs (i + 1)) (m := pn (S.1 268)) (by omega) hg.e3
  by_cases h1 : 0 ≤ xs (i + 1) ∧ xs (i + 1) < S.1 268 3
  · skip
    obtain ⟨r, hr, hr6, e1⟩ := hI.pnI h1
    have h1' : 0 ≤ nI r ∧ nI r < S.1 268 3 := by rw [← e1]; exact h1
    have h1m : inr (nI r) 0 (S.1 268 3 - 1) := by rw [← e1]; exact hpl.mpr h1
    refine wa_aload_n dL_law_2465 rfl ?_
    refine l_rd (q := 1) (x := nI r) e1 dL_law_2466 dL_law_2467 dL_law_2469 dL_law_2470 dL_law_2471 (by decide) (by omega) hL ?_
    refine wa_aload_n dL_law_2472 rfl ?_
    refine wa_callW (As := [.ref 0, .int (nI r), .ref 277]) dL_law_2473 lk_L_291 (wl_dropPlan_0 (P := fun v' n' S' => n' = n ∧ v' = (S.1 268 3 - 1) ∧ ∃ S1, REM S S1 (S.1 268) c ∧ HH S' 34 (f_drop r 1 (S.1 268)) (fun _ => True) ∧ FRh 34 S1 S') hn (vr_dropPlan_0 hn hh hg hI.pp hI.c6 hI.h7 hr h1') (fun r n' h' q => by obtain ⟨p1, v, S', p2, p3, S1, p4, p5, p6, p7⟩ := q; exact ⟨v, S', p2, p3, p1, p7, S1, p4, p5, p6⟩)) rfl (by exact Nat.le_of_ble_eq_true rfl) (fitL (by decide) (by decide) (by omega) (by omega)) (by exact Nat.le_of_ble_eq_true rfl) (fun ro n' h' q _ => ?_) (fun E n' h' q _ => by cases q.1)
    obtain ⟨q1, v, S', q2, -, q3, q4, S1, q5, q6, q7⟩ := q
    cases q1
    rw [q2, q3, q4]
    obtain ⟨m1, m2⟩ := hI.cm q5 q7.toc
    have e8 := m2 268 (by decide)
    have e18 : S'.1 267 18 = nI c := (congrFun (m2 267 (by decide)) 18).trans hI.h18
    have hV1 : VG T (S'.1 268) := by rw [e8]; exact hg.1
    have hM1 : RM S' := RM_of hI.c6 e18
    have hTg : T < 2147400000 := by omega
    have e8' : (so S' ((S.1 268 3 - 1) : Int32).toInt64).1 268 = S.1 268 := e8
    have hN : INV (T + 200) n (c5 c + 1) (so (su (f_rem (th S' 0)) 268 (f_drop r 1 (S.1 268))) ((S.1 268 3 - 1) : Int32).toInt64) := (hI.chg q5 q6 q7 ((GG_drop hg hr).mono (by omega)) (rn_drop _ _ _) (fun j _ => q11_drop h20 j) (by omega)).soI _
    have hM := (mm_dropPlan_0 (S := so S' (((S.1 268 3 - 1) : Int32).toInt64)) hn m1 hV1 hM1 hTg (by rw [e8']; exact hr) (by rw [e8']; exact h1m))
    rw [md_rem m1 hI.c6 e18 e8, e8'] at hM
    refine wa_istore dL_law_2476 rfl ?_
    refine wa_aload_n dL_law_2478 rfl ?_
    refine l_rd (q := 1) (x := nI r) e1 dL_law_2479 dL_law_2480 dL_law_2482 dL_law_2483 dL_law_2484 (by decide) (by omega) hL ?_
    refine c_VI dL_law_2485 (AM.v hM rfl) lk_L_293 rfl (isO_MO _ _ _) rfl (ltS (by omega)) ?_ (hR := (fitL (by decide) (by decide) (by omega) (by omega)))
    exact l_tail0 dL_law_2488 dL_law_2490 dL_law_2491 dL_law_2494 dL_law_2496 dL_law_2501 dL_law_2503 dL_law_2506 dL_law_2507 dL_law_2508 dL_law_2509 dL_law_2511 dL_law_2512 dL_law_2513 dL_law_2518 (by decide) (by omega) (h0C hI.c6 e18 _ _) rfl (by omega) (by omega) (hQ _ _ _ _ _ _ _ _ _ (by omega) (by omega) (by omega) (by omega) (hN.mono (by omega) (Nat.le_refl _) hcb))
  · skip
    refine wa_aload_n dL_law_2465 rfl ?_
    refine l_rd (q := 1) (x := xs (i + 1)) rfl dL_law_2466 dL_law_2467 dL_law_2469 dL_law_2470 dL_law_2471 (by decide) (by omega) hL ?_
    refine wa_aload_n dL_law_2472 rfl ?_
    refine wa_callW (As := [.ref 0, .int (xs (i + 1)), .ref 277]) dL_law_2473 lk_L_291 (wl_dropPlan_1 hn (vr_dropPlan_1 hn hh hg _ h1)) rfl (by exact Nat.le_of_ble_eq_true rfl) (fitL (by decide) (by decide) (by omega) (by omega)) (by exact Nat.le_of_ble_eq_true rfl) (fun ro n' h' q _ => ?_) (fun E n' h' q _ => by cases q.1)
    obtain ⟨q1, q2, q3⟩ := q
    rw [q2, q3]
    cases q1
    refine wa_istore dL_law_2476 rfl ?_
    refine wa_aload_n dL_law_2478 rfl ?_
    refine l_rd (q := 1) (x := xs (i + 1)) rfl dL_law_2479 dL_law_2480 dL_law_2482 dL_law_2483 dL_law_2484 (by decide) (by omega) hL ?_
    refine c_VI dL_law_2485 (mm_dropPlan_1 hn hm hg.1 (RM_of hI.c6 hI.h18) (by omega) _ (fun z => h1 (hpl.mp z))) lk_L_293 rfl (isO_MO _ _ _) rfl (ltS (by omega)) ?_ (hR := (fitL (by decide) (by decide) (by omega) (by omega)))
    exact l_tailE (j := 1) dL_law_2488 dL_law_2490 dL_law_2491 dL_law_2494 dL_law_2496 dL_law_2501 (o2 := 15) dL_law_2503 dL_law_2518 (by decide) (by omega) (by decide) (by decide) (th_0 _ _) (by omega) (by omega) (hQ _ _ _ _ _ _ _ _ _ (by omega) (by omega) (by omega) (by omega) ((hI.thI 1).mono (by omega) (Nat.le_refl _) hcb))
theorem lc_setOutside {L : Nat} {xs : Nat → Int32} {Q : ab_Q} {k z n i c : Nat} {a b c1 d : Option Value} {S : SS} {T : Int} (hi : i + 6 ≤ L) (hL : L ≤ 3072) (hI : INV T n c S) (hT0 : 0 ≤ T) (hT : T ≤ 110000) (hk : k + 80 ≤ 601024) (hz : z + 13300 ≤ 7293034) (hnb : n + 80 ≤ 900000) (hQ : LK L xs Q T n k z i) : LX L xs Q k z 2521 (lsL i a b c1 d) [] n (Hp S) := by
  have hn := hI.n
  have hh := hI.hh
  have hg := hI.gg
  have hm := hI.m
  have hcb := hI.1.2.1
  have e9 : ab_CB = 1000000 := rfl
  by_cases h1 : inr (xs (i + 1)) (-300) 400
  · skip
    refine wa_aload_n dL_law_2521 rfl ?_
    refine l_rd (q := 1) (x := xs (i + 1)) rfl dL_law_2522 dL_law_2523 dL_law_2525 dL_law_2526 dL_law_2527 (by decide) (by omega) hL ?_
    refine wa_aload_n dL_law_2528 rfl ?_
    refine wa_callW (As := [.ref 0, .int (xs (i + 1)), .ref 277]) dL_law_2529 lk_L_294 (wl_setOutside_0 (P := fun v' n' S' => n' = n ∧ v' = (S.1 268 2) ∧ ∃ S1, REM S S1 (S.1 268) c ∧ HH S' 34 (upd (S.1 268) 2 (xs (i + 1))) (fun _ => True) ∧ FRh 34 S1 S') hn (vr_setOutside_0 hn hh hg hI.pp hI.c6 hI.h7 _ h1) (fun r n' h' q => by obtain ⟨p1, v, S', p2, p3, S1, p4, p5, p6, p7⟩ := q; exact ⟨v, S', p2, p3, p1, p7, S1, p4, p5, p6⟩)) rfl (by exact Nat.le_of_ble_eq_true rfl) (fitL (by decide) (by decide) (by omega) (by omega)) (by exact Nat.le_of_ble_eq_true rfl) (fun ro n' h' q _ => ?_) (fun E n' h' q _ => by cases q.1)
    obtain ⟨q1, v, S', q2, -, q3, q4, S1, q5, q6, q7⟩ := q
    cases q1
    rw [q2, q3, q4]
    obtain ⟨m1, m2⟩ := hI.cm q5 q7.toc
    have e8 := m2 268 (by decide)
    have e18 : S'.1 267 18 = nI c := (congrFun (m2 267 (by decide)) 18).trans hI.h18
    have hV1 : VG T (S'.1 268) := by rw [e8]; exact hg.1
    have hM1 : RM S' := RM_of hI.c6 e18
    have hTg : T < 2147400000 := by omega
    have e8' : (so S' ((S.1 268 2) : Int32).toInt64).1 268 = S.1 268 := e8
    have hN : INV (T + 200) n (c5 c + 1) (so (su (f_rem (th S' 0)) 268 (upd (S.1 268) 2 (xs (i + 1)))) ((S.1 268 2) : Int32).toInt64) := (hI.chg q5 q6 q7 ((GG_upd _ hg (by decide) (by decide) (by decide) (by decide) (by have h5 := inr_i2 h1; exact ⟨h5, hg.2.1.2⟩)).mono (by omega)) (rn_upd _ _ (by decide)) (fun j _ => q11_upd _ _ (by decide) j) (by omega)).soI _
    have hM := (mm_setOutside_0 (S := so S' (((S.1 268 2) : Int32).toInt64)) hn m1 hV1 hM1 hTg _ h1)
    rw [f_rem_so, e8'] at hM
    refine wa_istore dL_law_2532 rfl ?_
    refine wa_aload_n dL_law_2534 rfl ?_
    refine l_rd (q := 1) (x := xs (i + 1)) rfl dL_law_2535 dL_law_2536 dL_law_2538 dL_law_2539 dL_law_2540 (by decide) (by omega) hL ?_
    refine c_VI dL_law_2541 (AM.v hM rfl) lk_L_296 rfl (isO_MO _ _ _) rfl (ltS (by omega)) ?_ (hR := (fitL (by decide) (by decide) (by omega) (by omega)))
    exact l_tail0 dL_law_2544 dL_law_2546 dL_law_2547 dL_law_2550 dL_law_2552 dL_law_2557 dL_law_2559 dL_law_2562 dL_law_2563 dL_law_2564 dL_law_2565 dL_law_2567 dL_law_2568 dL_law_2569 dL_law_2574 (by decide) (by omega) (h0C hI.c6 e18 _ _) rfl (by omega) (by omega) (hQ _ _ _ _ _ _ _ _ _ (by omega) (by omega) (by omega) (by omega) (hN.mono (by omega) (Nat.le_refl _) hcb))
  · skip
    refine wa_aload_n dL_law_2521 rfl ?_
    refine l_rd (q := 1) (x := xs (i + 1)) rfl dL_law_2522 dL_law_2523 dL_law_2525 dL_law_2526 dL_law_2527 (by decide) (by omega) hL ?_
    refine wa_aload_n dL_law_2528 rfl ?_
    refine wa_callW (As := [.ref 0, .int (xs (i + 1)), .ref 277]) dL_law_2529 lk_L_294 (wl_setOutside_1 hn (vr_setOutside_1 hn hh hg _ h1)) rfl (by exact Nat.le_of_ble_eq_true rfl) (fitL (by decide) (by decide) (by omega) (by omega)) (by exact Nat.le_of_ble_eq_true rfl) (fun ro n' h' q _ => ?_) (fun E n' h' q _ => by cases q.1)
    obtain ⟨q1, q2, q3⟩ := q
    rw [q2, q3]
    cases q1
    refine wa_istore dL_law_2532 rfl ?_
    refine wa_aload_n dL_law_2534 rfl ?_
    refine l_rd (q := 1) (x := xs (i + 1)) rfl dL_law_2535 dL_law_2536 dL_law_2538 dL_law_2539 dL_law_2540 (by decide) (by omega) hL ?_
    refine c_VI dL_law_2541 (mm_setOutside_1 hn hm hg.1 (RM_of hI.c6 hI.h18) (by omega) _ h1) lk_L_296 rfl (isO_MO _ _ _) rfl (ltS (by omega)) ?_ (hR := (fitL (by decide) (by decide) (by omega) (by omega)))
    exact l_tailE (j := 1) dL_law_2544 dL_law_2546 dL_law_2547 dL_law_2550 dL_law_2552 dL_law_2557 (o2 := 15) dL_law_2559 dL_law_2574 (by decide) (by omega) (by decide) (by decide) (th_0 _ _) (by omega) (by omega) (hQ _ _ _ _ _ _ _ _ _ (by omega) (by omega) (by omega) (by omega) ((hI.thI 1).mono (by omega) (Nat.le_refl _) hcb))
theorem lc_setControl {L : Nat} {xs : Nat → Int32} {Q : ab_Q} {k z n i c : Nat} {a b c1 d : Option Value} {S : SS} {T : Int} (hi : i + 6 ≤ L) (hL : L ≤ 3072) (hI : INV T n c S) (hT0 : 0 ≤ T) (hT : T ≤ 110000) (hk : k + 80 ≤ 601024) (hz : z + 13300 ≤ 7293034) (hnb : n + 80 ≤ 900000) (hQ : LK L xs Q T n k z i) : LX L xs Q k z 2577 (lsL i a b c1 d) [] n (Hp S) := by
  have hn := hI.n
  have hh := hI.hh
  have hg := hI.gg
  have hm := hI.m
  have hcb := hI.1.2.1
  have e9 : ab_CB = 1000000 := rfl
  by_cases h1 : inr (xs (i + 1)) 0 50
  · skip
    by_cases h2 : inr (xs (i + 2)) 1 50
    · skip
      by_cases h3 : inr (xs (i + 3)) 1 100
      · skip
        have hGG : GG T (upd (upd (upd (S.1 268) 7 (xs (i + 1))) 8 (xs (i + 2))) 9 (xs (i + 3))) := by
          have h5 := inr_i2 h1
          have h6 := inr_i2 h2
          have h7 := inr_i2 h3
          obtain ⟨b1, b2, b3, b4, b5, b6, b7, b8⟩ := hg.2.1
          have g1 : GH (upd (S.1 268) 7 (xs (i + 1))) := ⟨b1, b2, b3, b4, h5, b6, b7, b8⟩
          have g2 : GH (upd (upd (S.1 268) 7 (xs (i + 1))) 8 (xs (i + 2))) := ⟨b1, b2, b3, b4, h5, h6, b7, b8⟩
          have g3 : GH (upd (upd (upd (S.1 268) 7 (xs (i + 1))) 8 (xs (i + 2))) 9 (xs (i + 3))) := ⟨b1, b2, b3, b4, h5, h6, h7, b8⟩
          exact GG_upd _ (GG_upd _ (GG_upd _ hg (by decide) (by decide) (by decide) (by decide) g1) (by decide) (by decide) (by decide) (by decide) g2) (by decide) (by decide) (by decide) (by decide) g3
        refine wa_aload_n dL_law_2577 rfl ?_
        refine l_rd (q := 1) (x := xs (i + 1)) rfl dL_law_2578 dL_law_2579 dL_law_2581 dL_law_2582 dL_law_2583 (by decide) (by omega) hL ?_
        refine l_rd (q := 2) (x := xs (i + 2)) rfl dL_law_2584 dL_law_2585 dL_law_2587 dL_law_2588 dL_law_2589 (by decide) (by omega) hL ?_
        refine l_rd (q := 3) (x := xs (i + 3)) rfl dL_law_2590 dL_law_2591 dL_law_2593 dL_law_2594 dL_law_2595 (by decide) (by omega) hL ?_
        refine wa_aload_n dL_law_2596 rfl ?_
        refine wa_callW (As := [.ref 0, .int (xs (i + 1)), .int (xs (i + 2)), .int (xs (i + 3)), .ref 277]) dL_law_2597 lk_L_297 (wl_setControl_0 (P := fun v' n' S' => n' = n ∧ v' = (100000 * S.1 268 7 + 1000 * S.1 268 8 + S.1 268 9) ∧ ∃ S1, REM S S1 (S.1 268) c ∧ HH S' 34 (upd (upd (upd (S.1 268) 7 (xs (i + 1))) 8 (xs (i + 2))) 9 (xs (i + 3))) (fun _ => True) ∧ FRh 34 S1 S') hn (vr_setControl_0 hn hh hg hI.pp hI.c6 hI.h7 _ _ _ h1 h2 h3) (fun r n' h' q => by obtain ⟨p1, v, S', p2, p3, S1, p4, p5, p6, p7⟩ := q; exact ⟨v, S', p2, p3, p1, p7, S1, p4, p5, p6⟩)) rfl (by exact Nat.le_of_ble_eq_true rfl) (fitL (by decide) (by decide) (by omega) (by omega)) (by exact Nat.le_of_ble_eq_true rfl) (fun ro n' h' q _ => ?_) (fun E n' h' q _ => by cases q.1)
        obtain ⟨q1, v, S', q2, -, q3, q4, S1, q5, q6, q7⟩ := q
        cases q1
        rw [q2, q3, q4]
        obtain ⟨m1, m2⟩ := hI.cm q5 q7.toc
        have e8 := m2 268 (by decide)
        have e18 : S'.1 267 18 = nI c := (congrFun (m2 267 (by decide)) 18).trans hI.h18
        have hV1 : VG T (S'.1 268) := by rw [e8]; exact hg.1
        have hM1 : RM S' := RM_of hI.c6 e18
        have hTg : T < 2147400000 := by omega
        have e8' : (so S' ((100000 * S.1 268 7 + 1000 * S.1 268 8 + S.1 268 9) : Int32).toInt64).1 268 = S.1 268 := e8
        have hN : INV (T + 200) n (c5 c + 1) (so (su (f_rem (th S' 0)) 268 (upd (upd (upd (S.1 268) 7 (xs (i + 1))) 8 (xs (i + 2))) 9 (xs (i + 3)))) ((100000 * S.1 268 7 + 1000 * S.1 268 8 + S.1 268 9) : Int32).toInt64) := (hI.chg q5 q6 q7 (hGG.mono (by omega)) ((rn_upd _ _ (by decide)).trans ((rn_upd _ _ (by decide)).trans (rn_upd _ _ (by decide)))) (fun j _ => (((q11_upd _ _ (by decide)).tr (q11_upd _ _ (by decide))).tr (q11_upd _ _ (by decide))) j) (by omega)).soI _
        have hM := (mm_setControl_0 (S := so S' (((100000 * S.1 268 7 + 1000 * S.1 268 8 + S.1 268 9) : Int32).toInt64)) hn m1 hV1 hM1 hTg _ _ _ h1 h2 h3)
        rw [f_rem_so, e8'] at hM
        refine wa_istore dL_law_2600 rfl ?_
        refine wa_aload_n dL_law_2602 rfl ?_
        refine l_rd (q := 1) (x := xs (i + 1)) rfl dL_law_2603 dL_law_2604 dL_law_2606 dL_law_2607 dL_law_2608 (by decide) (by omega) hL ?_
        refine l_rd (q := 2) (x := xs (i + 2)) rfl dL_law_2609 dL_law_2610 dL_law_2612 dL_law_2613 dL_law_2614 (by decide) (by omega) hL ?_
        refine l_rd (q := 3) (x := xs (i + 3)) rfl dL_law_2615 dL_law_2616 dL_law_2618 dL_law_2619 dL_law_2620 (by decide) (by omega) hL ?_
        refine c_VI dL_law_2621 (AM.v hM rfl) lk_L_299 rfl (isO_MO _ _ _) rfl (ltS (by omega)) ?_ (hR := (fitL (by decide) (by decide) (by omega) (by omega)))
        exact l_tail0 dL_law_2624 dL_law_2626 dL_law_2627 dL_law_2630 dL_law_2632 dL_law_2637 dL_law_2639 dL_law_2642 dL_law_2643 dL_law_2644 dL_law_2645 dL_law_2647 dL_law_2648 dL_law_2649 dL_law_2654 (by decide) (by omega) (h0C hI.c6 e18 _ _) rfl (by omega) (by omega) (hQ _ _ _ _ _ _ _ _ _ (by omega) (by omega) (by omega) (by omega) (hN.mono (by omega) (Nat.le_refl _) hcb))
      · skip
        refine wa_aload_n dL_law_2577 rfl ?_
        refine l_rd (q := 1) (x := xs (i + 1)) rfl dL_law_2578 dL_law_2579 dL_law_2581 dL_law_2582 dL_law_2583 (by decide) (by omega) hL ?_
        refine l_rd (q := 2) (x := xs (i + 2)) rfl dL_law_2584 dL_law_2585 dL_law_2587 dL_law_2588 dL_law_2589 (by decide) (by omega) hL ?_
        refine l_rd (q := 3) (x := xs (i + 3)) rfl dL_law_2590 dL_law_2591 dL_law_2593 dL_law_2594 dL_law_2595 (by decide) (by omega) hL ?_
        refine wa_aload_n dL_law_2596 rfl ?_
        refine wa_callW (As := [.ref 0, .int (xs (i + 1)), .int (xs (i + 2)), .int (xs (i + 3)), .ref 277]) dL_law_2597 lk_L_297 (wl_setControl_1 hn (vr_setControl_3 hn hh hg _ _ _ h1 h2 h3)) rfl (by exact Nat.le_of_ble_eq_true rfl) (fitL (by decide) (by decide) (by omega) (by omega)) (by exact Nat.le_of_ble_eq_true rfl) (fun ro n' h' q _ => ?_) (fun E n' h' q _ => by cases q.1)
        obtain ⟨q1, q2, q3⟩ := q
        rw [q2, q3]
        cases q1
        refine wa_istore dL_law_2600 rfl ?_
        refine wa_aload_n dL_law_2602 rfl ?_
        refine l_rd (q := 1) (x := xs (i + 1)) rfl dL_law_2603 dL_law_2604 dL_law_2606 dL_law_2607 dL_law_2608 (by decide) (by omega) hL ?_
        refine l_rd (q := 2) (x := xs (i + 2)) rfl dL_law_2609 dL_law_2610 dL_law_2612 dL_law_2613 dL_law_2614 (by decide) (by omega) hL ?_
        refine l_rd (q := 3) (x := xs (i + 3)) rfl dL_law_2615 dL_law_2616 dL_law_2618 dL_law_2619 dL_law_2620 (by decide) (by omega) hL ?_
        refine c_VI dL_law_2621 (mm_setControl_1 hn hm hg.1 _ _ _ (fun z => h3 z.2.2)) lk_L_299 rfl (isO_MO _ _ _) rfl (ltS (by omega)) ?_ (hR := (fitL (by decide) (by decide) (by omega) (by omega)))
        exact l_tailE (j := 1) dL_law_2624 dL_law_2626 dL_law_2627 dL_law_2630 dL_law_2632 dL_law_2637 (o2 := 15) dL_law_2639 dL_law_2654 (by decide) (by omega) (by decide) (by decide) (th_0 _ _) (by omega) (by omega) (hQ _ _ _ _ _ _ _ _ _ (by omega) (by omega) (by omega) (by omega) ((hI.thI 1).mono (by omega) (Nat.le_refl _) hcb))
    · skip
      refine wa_aload_n dL_law_2577 rfl ?_
      refine l_rd (q := 1) (x := xs (i + 1)) rfl dL_law_2578 dL_law_2579 dL_law_2581 dL_law_2582 dL_law_2583 (by decide) (by omega) hL ?_
      refine l_rd (q := 2) (x := xs (i + 2)) rfl dL_law_2584 dL_law_2585 dL_law_2587 dL_law_2588 dL_law_2589 (by decide) (by omega) hL ?_
      refine l_rd (q := 3) (x := xs (i + 3)) rfl dL_law_2590 dL_law_2591 dL_law_2593 dL_law_2594 dL_law_2595 (by decide) (by omega) hL ?_
      refine wa_aload_n dL_law_2596 rfl ?_
      refine wa_callW (As := [.ref 0, .int (xs (i + 1)), .int (xs (i + 2)), .int (xs (i + 3)), .ref 277]) dL_law_2597 lk_L_297 (wl_setControl_1 hn (vr_setControl_2 hn hh hg _ _ _ h1 h2)) rfl (by exact Nat.le_of_ble_eq_true rfl) (fitL (by decide) (by decide) (by omega) (by omega)) (by exact Nat.le_of_ble_eq_true rfl) (fun ro n' h' q _ => ?_) (fun E n' h' q _ => by cases q.1)
      obtain ⟨q1, q2, q3⟩ := q
      rw [q2, q3]
      cases q1
      refine wa_istore dL_law_2600 rfl ?_
      refine wa_aload_n dL_law_2602 rfl ?_
      refine l_rd (q := 1) (x := xs (i + 1)) rfl dL_law_2603 dL_law_2604 dL_law_2606 dL_law_2607 dL_law_2608 (by decide) (by omega) hL ?_
      refine l_rd (q := 2) (x := xs (i + 2)) rfl dL_law_2609 dL_law_2610 dL_law_2612 dL_law_2613 dL_law_2614 (by decide) (by omega) hL ?_
      refine l_rd (q := 3) (x := xs (i + 3)) rfl dL_law_2615 dL_law_2616 dL_law_2618 dL_law_2619 dL_law_2620 (by decide) (by omega) hL ?_
      refine c_VI dL_law_2621 (mm_setControl_1 hn hm hg.1 _ _ _ (fun z => h2 z.2.1)) lk_L_299 rfl (isO_MO _ _ _) rfl (ltS (by omega)) ?_ (hR := (fitL (by decide) (by decide) (by omega) (by omega)))
      exact l_tailE (j := 1) dL_law_2624 dL_law_2626 dL_law_2627 dL_law_2630 dL_law_2632 dL_law_2637 (o2 := 15) dL_law_2639 dL_law_2654 (by decide) (by omega) (by decide) (by decide) (th_0 _ _) (by omega) (by omega) (hQ _ _ _ _ _ _ _ _ _ (by omega) (by omega) (by omega) (by omega) ((hI.thI 1).mono (by omega) (Nat.le_refl _) hcb))
  · skip
    refine wa_aload_n dL_law_2577 rfl ?_
    refine l_rd (q := 1) (x := xs (i + 1)) rfl dL_law_2578 dL_law_2579 dL_law_2581 dL_law_2582 dL_law_2583 (by decide) (by omega) hL ?_
    refine l_rd (q := 2) (x := xs (i + 2)) rfl dL_law_2584 dL_law_2585 dL_law_2587 dL_law_2588 dL_law_2589 (by decide) (by omega) hL ?_
    refine l_rd (q := 3) (x := xs (i + 3)) rfl dL_law_2590 dL_law_2591 dL_law_2593 dL_law_2594 dL_law_2595 (by decide) (by omega) hL ?_
    refine wa_aload_n dL_law_2596 rfl ?_
    refine wa_callW (As := [.ref 0, .int (xs (i + 1)), .int (xs (i + 2)), .int (xs (i + 3)), .ref 277]) dL_law_2597 lk_L_297 (wl_setControl_1 hn (vr_setControl_1 hn hh hg _ _ _ h1)) rfl (by exact Nat.le_of_ble_eq_true rfl) (fitL (by decide) (by decide) (by omega) (by omega)) (by exact Nat.le_of_ble_eq_true rfl) (fun ro n' h' q _ => ?_) (fun E n' h' q _ => by cases q.1)
    obtain ⟨q1, q2, q3⟩ := q
    rw [q2, q3]
    cases q1
    refine wa_istore dL_law_2600 rfl ?_
    refine wa_aload_n dL_law_2602 rfl ?_
    refine l_rd (q := 1) (x := xs (i + 1)) rfl dL_law_2603 dL_law_2604 dL_law_2606 dL_law_2607 dL_law_2608 (by decide) (by omega) hL ?_
    refine l_rd (q := 2) (x := xs (i + 2)) rfl dL_law_2609 dL_law_2610 dL_law_2612 dL_law_2613 dL_law_2614 (by decide) (by omega) hL ?_
    refine l_rd (q := 3) (x := xs (i + 3)) rfl dL_law_2615 dL_law_2616 dL_law_2618 dL_law_2619 dL_law_2620 (by decide) (by omega) hL ?_
    refine c_VI dL_law_2621 (mm_setControl_1 hn hm hg.1 _ _ _ (fun z => h1 z.1)) lk_L_299 rfl (isO_MO _ _ _) rfl (ltS (by omega)) ?_ (hR := (fitL (by decide) (by decide) (by omega) (by omega)))
    exact l_tailE (j := 1) dL_law_2624 dL_law_2626 dL_law_2627 dL_law_2630 dL_law_2632 dL_law_2637 (o2 := 15) dL_law_2639 dL_law_2654 (by decide) (by omega) (by decide) (by decide) (th_0 _ _) (by omega) (by omega) (hQ _ _ _ _ _ _ _ _ _ (by omega) (by omega) (by omega) (by omega) ((hI.thI 1).mono (by omega) (Nat.le_refl _) hcb))
theorem lc_tick {L : Nat} {xs : Nat → Int32} {Q : ab_Q} {k z n i c : Nat} {a b c1 d : Option Value} {S : SS} {T : Int} (hi : i + 6 ≤ L) (hL : L ≤ 3072) (hI : INV T n c S) (hT0 : 0 ≤ T) (hT : T ≤ 110000) (hk : k + 80 ≤ 601024) (hz : z + 13300 ≤ 7293034) (hnb : n + 80 ≤ 900000) (hQ : LK L xs Q T n k z i) : LX L xs Q k z 1926 (lsL i a b c1 d) [] n (Hp S) := by
  have hn := hI.n
  have hh := hI.hh
  have hg := hI.gg
  have hm := hI.m
  have hcb := hI.1.2.1
  have e9 : ab_CB = 1000000 := rfl
  by_cases h1 : inr (xs (i + 1)) 1 200
  · skip
    have h1i := inr_i2 h1
    obtain ⟨N, hN, e2⟩ := in_nI (m := 200) (by decide) ⟨Int32.le_trans (by decide) h1.1, h1.2⟩
    have h1' : inr (nI N) 1 200 := by rw [← e2]; exact h1
    refine wa_aload_n dL_law_1926 rfl ?_
    refine l_rd (q := 1) (x := nI N) e2 dL_law_1927 dL_law_1928 dL_law_1930 dL_law_1931 dL_law_1932 (by decide) (by omega) hL ?_
    refine wa_aload_n dL_law_1933 rfl ?_
    refine wa_callW (As := [.ref 0, .int (nI N), .ref 277]) dL_law_1934 lk_L_269 (wl_tick_0 (P := fun v' n' S' => n' = n ∧ v' = (sumN (ticksN (S.1 268) N) 12 (rn (S.1 268)) - sumN (S.1 268) 12 (rn (S.1 268))) ∧ ∃ S1, REM S S1 (S.1 268) c ∧ HH S' 34 (ticksN (S.1 268) N) (fun _ => True) ∧ FRh 34 S1 S') hn (vr_tick_0 hn hh hg hI.pp hI.c6 hI.h7 hN h1' (by omega)) (fun r n' h' q => by obtain ⟨p1, v, S', p2, p3, S1, p4, p5, p6, p7⟩ := q; exact ⟨v, S', p2, p3, p1, p7, S1, p4, p5, p6⟩)) rfl (by exact Nat.le_of_ble_eq_true rfl) (fitL (by decide) (by decide) (by omega) (by omega)) (by exact Nat.le_of_ble_eq_true rfl) (fun ro n' h' q _ => ?_) (fun E n' h' q _ => by cases q.1)
    obtain ⟨q1, v, S', q2, -, q3, q4, S1, q5, q6, q7⟩ := q
    cases q1
    rw [q2, q3, q4]
    obtain ⟨m1, m2⟩ := hI.cm q5 q7.toc
    have e8 := m2 268 (by decide)
    have e18 : S'.1 267 18 = nI c := (congrFun (m2 267 (by decide)) 18).trans hI.h18
    have hV1 : VG T (S'.1 268) := by rw [e8]; exact hg.1
    have hM1 : RM S' := RM_of hI.c6 e18
    have hTg : T < 2147400000 := by omega
    have e8' : (so S' ((sumN (ticksN (S.1 268) N) 12 (rn (S.1 268)) - sumN (S.1 268) 12 (rn (S.1 268))) : Int32).toInt64).1 268 = S.1 268 := e8
    have hN : INV (T + 200) n (c5 c + 1) (so (su (f_rem (th S' 0)) 268 (ticksN (S.1 268) N)) ((sumN (ticksN (S.1 268) N) 12 (rn (S.1 268)) - sumN (S.1 268) 12 (rn (S.1 268))) : Int32).toInt64) := (hI.chg q5 q6 q7 ((GG_ticks hg N (by omega)).mono (by omega)) (rn_ticks _ _) (fun j _ => q11_ticks hg N (by omega) j) (by omega)).soI _
    have hM := (mm_tick_0 (N := N) (S := so S' (((sumN (ticksN (S.1 268) N) 12 (rn (S.1 268)) - sumN (S.1 268) 12 (rn (S.1 268))) : Int32).toInt64)) hn m1 hV1 hM1 hTg (by omega) h1')
    rw [md_rem m1 hI.c6 e18 e8, e8'] at hM
    refine wa_istore dL_law_1937 rfl ?_
    refine wa_aload_n dL_law_1939 rfl ?_
    refine l_rd (q := 1) (x := nI N) e2 dL_law_1940 dL_law_1941 dL_law_1943 dL_law_1944 dL_law_1945 (by decide) (by omega) hL ?_
    refine c_VI dL_law_1946 (AM.v hM rfl) lk_L_271 rfl (isO_MO _ _ _) rfl (ltS (by omega)) ?_ (hR := (fitL (by decide) (by decide) (by omega) (by omega)))
    exact l_tail0 dL_law_1949 dL_law_1951 dL_law_1952 dL_law_1955 dL_law_1957 dL_law_1962 dL_law_1964 dL_law_1967 dL_law_1968 dL_law_1969 dL_law_1970 dL_law_1972 dL_law_1973 dL_law_1974 dL_law_1979 (by decide) (by omega) (h0C hI.c6 e18 _ _) rfl (by omega) (by omega) (hQ _ _ _ _ _ _ _ _ _ (by omega) (by omega) (by omega) (by omega) (hN.mono (by omega) (Nat.le_refl _) hcb))
  · skip
    refine wa_aload_n dL_law_1926 rfl ?_
    refine l_rd (q := 1) (x := xs (i + 1)) rfl dL_law_1927 dL_law_1928 dL_law_1930 dL_law_1931 dL_law_1932 (by decide) (by omega) hL ?_
    refine wa_aload_n dL_law_1933 rfl ?_
    refine wa_callW (As := [.ref 0, .int (xs (i + 1)), .ref 277]) dL_law_1934 lk_L_269 (wl_tick_1 hn (vr_tick_1 hn hh hg _ h1)) rfl (by exact Nat.le_of_ble_eq_true rfl) (fitL (by decide) (by decide) (by omega) (by omega)) (by exact Nat.le_of_ble_eq_true rfl) (fun ro n' h' q _ => ?_) (fun E n' h' q _ => by cases q.1)
    obtain ⟨q1, q2, q3⟩ := q
    rw [q2, q3]
    cases q1
    refine wa_istore dL_law_1937 rfl ?_
    refine wa_aload_n dL_law_1939 rfl ?_
    refine l_rd (q := 1) (x := xs (i + 1)) rfl dL_law_1940 dL_law_1941 dL_law_1943 dL_law_1944 dL_law_1945 (by decide) (by omega) hL ?_
    refine c_VI dL_law_1946 (mm_tick_1 hn hm hg.1 (RM_of hI.c6 hI.h18) (by omega) _ h1) lk_L_271 rfl (isO_MO _ _ _) rfl (ltS (by omega)) ?_ (hR := (fitL (by decide) (by decide) (by omega) (by omega)))
    exact l_tailE (j := 1) dL_law_1949 dL_law_1951 dL_law_1952 dL_law_1955 dL_law_1957 dL_law_1962 (o2 := 15) dL_law_1964 dL_law_1979 (by decide) (by omega) (by decide) (by decide) (th_0 _ _) (by omega) (by omega) (hQ _ _ _ _ _ _ _ _ _ (by omega) (by omega) (by omega) (by omega) ((hI.thI 1).mono (by omega) (Nat.le_refl _) hcb))
