/-! The law's cases: slots. Written by program (wip/whole/gen/m890.py). -/
theorem k0K (S : SS) (f : Nat → Int32) (s : Nat) (x : Int32) : (ss (su (th S 0) 273 f) 274 s x).1 267 0 = 0 := by
  rw [ss_o _ _ _ (by decide), su_n _ _ (by decide)]
  exact th_0 _ _
theorem k0U (S : SS) (x : Int32) (f : Nat → Int32) : (su (ss (th S 0) 267 18 x) 268 f).1 267 0 = 0 := by
  rw [su_n _ _ (by decide), ss_j _ _ (by decide)]
  exact th_0 _ _
theorem k0W (S : SS) (t : List Int32) : (wrs (ss (th S 0) 267 20 0) t).1 267 0 = 0 := by
  rw [wrs_j (by decide), ss_j _ _ (by decide)]
  exact th_0 _ _
theorem LDV.hi {T : Int} {n n' c N : Nat} {b : Nat → Int32} {S S' : SS} {v : Int32} (h : INV T n c S) (w : LDV n S b N (S.1 268) c v n' S') : ∀ a, 221 ≤ a → S'.1 a = S.1 a := by
  unfold LDV at w
  cases hx : pLoad b N with
  | inl e =>
    rw [hx] at w
    obtain ⟨-, -, -, -, w6⟩ := w
    exact fun a ha => w6.2.1 a (Or.inr (by omega))
  | inr st =>
    rw [hx] at w
    obtain ⟨-, -, Sa, Sb, nf, nl, w4, -, w8, w9, -⟩ := w
    have hP : PPf Sa.2.2.1 := by rw [w4.1.1]; exact h.pp
    have hlo := (hP.pfP c).lo (c5_lt h.c6)
    exact fun a ha => ((w9.2 a (by omega)).1).trans ((w8.2.2.1 a (by omega) (by omega)).trans (w4.2.1 a (Or.inr (by omega))))
section LV
variable {L : Nat} {xs : Nat → Int32} {Q : ab_Q} {k z pc n i : Nat} {a b c d : Option Value} {st : List Value} {h : ab_H} {S : SS}
theorem l_tailV {j : Nat} {off : Int} (d1 : decode cL_law pc = .ok (.aload_n 2, 1)) (d2 : decode cL_law (pc + 1) = .ok (.invokevirtual 159, 3)) (d3 : decode cL_law (pc + 4) = .ok (.iload 6, 2)) (d4 : decode cL_law (pc + 6) = .ok (.if_icmp .eq 5, 3)) (d7 : decode cL_law (pc + 11) = .ok (.goto off, 3)) (ht : ((pc + 11 : Nat) : Int) + off = ((3100 : Nat) : Int)) (hn : 279 ≤ n) (h0 : S.1 267 0 = nI j) (hk : k ≤ 601024) (hz : z ≤ 7293034)
    (K : LX L xs Q k z 3100 (lsL i (some (.int (nI j))) b c d) [] n (Hp S)) : LX L xs Q k z pc (lsL i (some (.int (nI j))) b c d) [] n (Hp S) := by
  refine wa_aload_n d1 rfl ?_
  refine c_VI d2 (mm_thrown hn) lk_L_159 rfl (isO_MO _ _ _) rfl (ltS hn) ?_ (hR := fitL (by decide) (by decide) (by omega) (by omega))
  rw [h0]
  refine wa_iload d3 rfl ?_
  refine wa_icmp_eq (pc + 11) d4 (by omega) (fun _ => ?_) (fun z => absurd rfl z)
  exact wa_goto 3100 d7 ht K
end LV
theorem lc_keep {L : Nat} {xs : Nat → Int32} {Q : ab_Q} {k z n i c : Nat} {a b c1 d : Option Value} {S : SS} {T : Int} (hi : i + 6 ≤ L) (hL : L ≤ 3072) (hI : INV T n c S) (hT0 : 0 ≤ T) (hT : T ≤ 110000) (hk : k + 80 ≤ 601024) (hz : z + 13300 ≤ 7293034) (hnb : n + 80 ≤ 900000) (hQ : LK L xs Q T n k z i) : LX L xs Q k z 2793 (lsL i a b c1 d) [] n (Hp S) := by
  have hn := hI.n
  have hh := hI.hh
  have hg := hI.gg
  have hm := hI.m
  have hcb := hI.1.2.1
  have e9 : ab_CB = 1000000 := rfl
  by_cases h1 : inr (xs (i + 1)) 0 1
  · skip
    obtain ⟨r, hr, e1⟩ := in_nI (m := 1) (by decide) h1
    have hr2 : r < 2 := by omega
    have h1' : inr (nI r) 0 1 := by rw [← e1]; exact h1
    refine wa_aload_n dL_law_2793 rfl ?_
    refine l_rd (q := 1) (x := nI r) e1 dL_law_2794 dL_law_2795 dL_law_2797 dL_law_2798 dL_law_2799 (by decide) (by omega) hL ?_
    refine wa_aload_n dL_law_2800 rfl ?_
    refine wa_callW (As := [.ref 0, .int (nI r), .ref 277]) dL_law_2801 lk_L_306 (wl_keep_0 (P := fun v' n' S' => n' = n ∧ v' = (S.1 268 1) ∧ ∃ S1, FRc (221 + 23 * r) S S1 ∧ HH S1 (221 + 23 * r) (S.1 268) (fun _ => True) ∧ (∀ i, i < rn (S.1 268) → S1.2.1 (221 + 23 * r + 5 + 3 * i) = S.2.1 (34 + 5 + 3 * i)) ∧ S' = ss S1 82 r 1) hn (vr_keep_0 hn hh hg hr2 h1') (fun r0 n' h' q => by obtain ⟨p1, v, S', p2, p3, S1, p4, p5, p6, p7, p8⟩ := q; exact ⟨v, S', p2, p3, p1, p8, S1, p4, p5, p6, p7⟩)) rfl (by exact Nat.le_of_ble_eq_true rfl) (fitL (by decide) (by decide) (by omega) (by omega)) (by exact Nat.le_of_ble_eq_true rfl) (fun ro n' h' q _ => ?_) (fun E n' h' q _ => by cases q.1)
    obtain ⟨q1, v, S', q2, -, q3, q4, S1, q5, q6, q7, q8⟩ := q
    cases q1
    rw [q2, q3, q4, q8]
    have e8 : (so (ss S1 82 r 1) (((S.1 268 1) : Int32).toInt64)).1 268 = S.1 268 := (show (ss S1 82 r 1).1 268 = S1.1 268 from ss_o S1 _ _ (by decide)).trans (q5.2 268 (by omega)).1
    have e73 : (so (ss S1 82 r 1) (((S.1 268 1) : Int32).toInt64)).1 273 = S.1 273 := (show (ss S1 82 r 1).1 273 = S1.1 273 from ss_o S1 _ _ (by decide)).trans (q5.2 273 (by omega)).1
    have m1 : mr (so (ss S1 82 r 1) (((S.1 268 1) : Int32).toInt64)) = 268 := by
      have hm2 := hm
      unfold mr at *
      show (if S1.2.2.2.1 then 269 else 268) = 268
      rw [q5.1]
      exact hm2
    have hM := mm_keep_0 (S := so (ss S1 82 r 1) (((S.1 268 1) : Int32).toInt64)) hn m1 (T := T) (by rw [e8]; exact hg.1) hr2 h1'
    have hN := (hI.keep hr2 q5 q6 q7 _ e8 _ e73).soI (((S.1 268 1) : Int32).toInt64)
    refine wa_istore dL_law_2804 rfl ?_
    refine wa_aload_n dL_law_2806 rfl ?_
    refine l_rd (q := 1) (x := nI r) e1 dL_law_2807 dL_law_2808 dL_law_2810 dL_law_2811 dL_law_2812 (by decide) (by omega) hL ?_
    refine c_VI dL_law_2813 (AM.v hM (congrFun e8 1)) lk_L_308 rfl (isO_MO _ _ _) rfl (ltS (by omega)) ?_ (hR := (fitL (by decide) (by decide) (by omega) (by omega)))
    exact l_tail0 dL_law_2816 dL_law_2818 dL_law_2819 dL_law_2822 dL_law_2824 dL_law_2829 dL_law_2831 dL_law_2834 dL_law_2835 dL_law_2836 dL_law_2837 dL_law_2839 dL_law_2840 dL_law_2841 dL_law_2846 (by decide) (by omega) (k0K _ _ _ _) rfl (by omega) (by omega) (hQ _ _ _ _ _ _ _ _ _ (by omega) (by omega) (by omega) (by omega) (hN.mono (by omega) (Nat.le_refl _) hcb))
  · skip
    refine wa_aload_n dL_law_2793 rfl ?_
    refine l_rd (q := 1) (x := xs (i + 1)) rfl dL_law_2794 dL_law_2795 dL_law_2797 dL_law_2798 dL_law_2799 (by decide) (by omega) hL ?_
    refine wa_aload_n dL_law_2800 rfl ?_
    refine wa_callW (As := [.ref 0, .int (xs (i + 1)), .ref 277]) dL_law_2801 lk_L_306 (wl_keep_1 hn (vr_keep_1 hn hh hg _ h1)) rfl (by exact Nat.le_of_ble_eq_true rfl) (fitL (by decide) (by decide) (by omega) (by omega)) (by exact Nat.le_of_ble_eq_true rfl) (fun ro n' h' q _ => ?_) (fun E n' h' q _ => by cases q.1)
    obtain ⟨q1, q2, q3⟩ := q
    rw [q2, q3]
    cases q1
    refine wa_istore dL_law_2804 rfl ?_
    refine wa_aload_n dL_law_2806 rfl ?_
    refine l_rd (q := 1) (x := xs (i + 1)) rfl dL_law_2807 dL_law_2808 dL_law_2810 dL_law_2811 dL_law_2812 (by decide) (by omega) hL ?_
    refine c_VI dL_law_2813 (mm_keep_1 hn hm hg.1 _ h1) lk_L_308 rfl (isO_MO _ _ _) rfl (ltS (by omega)) ?_ (hR := (fitL (by decide) (by decide) (by omega) (by omega)))
    exact l_tailE (j := 1) dL_law_2816 dL_law_2818 dL_law_2819 dL_law_2822 dL_law_2824 dL_law_2829 (o2 := 15) dL_law_2831 dL_law_2846 (by decide) (by omega) (by decide) (by decide) (th_0 _ _) (by omega) (by omega) (hQ _ _ _ _ _ _ _ _ _ (by omega) (by omega) (by omega) (by omega) ((hI.thI 1).mono (by omega) (Nat.le_refl _) hcb))
theorem lc_restore {L : Nat} {xs : Nat → Int32} {Q : ab_Q} {k z n i c : Nat} {a b c1 d : Option Value} {S : SS} {T : Int} (hi : i + 6 ≤ L) (hL : L ≤ 3072) (hI : INV T n c S) (hT0 : 0 ≤ T) (hT : T ≤ 110000) (hk : k + 80 ≤ 601024) (hz : z + 13300 ≤ 7293034) (hnb : n + 80 ≤ 900000) (hQ : LK L xs Q T n k z i) : LX L xs Q k z 2849 (lsL i a b c1 d) [] n (Hp S) := by
  have hn := hI.n
  have hh := hI.hh
  have hg := hI.gg
  have hm := hI.m
  have hcb := hI.1.2.1
  have e9 : ab_CB = 1000000 := rfl
  by_cases h1 : inr (xs (i + 1)) 0 1
  · skip
    obtain ⟨r, hr, e1⟩ := in_nI (m := 1) (by decide) h1
    have hr2 : r < 2 := by omega
    have h1' : inr (nI r) 0 1 := by rw [← e1]; exact h1
    have hke := hI.2.2.2.1 r hr2
    by_cases h2 : S.1 82 r = 0
    · skip
      refine wa_aload_n dL_law_2849 rfl ?_
      refine l_rd (q := 1) (x := nI r) e1 dL_law_2850 dL_law_2851 dL_law_2853 dL_law_2854 dL_law_2855 (by decide) (by omega) hL ?_
      refine wa_aload_n dL_law_2856 rfl ?_
      refine wa_callW (As := [.ref 0, .int (nI r), .ref 277]) dL_law_2857 lk_L_309 (wl_restore_2 hn (vr_restore_2 hn hr2 h1' h2)) rfl (by exact Nat.le_of_ble_eq_true rfl) (fitL (by decide) (by decide) (by omega) (by omega)) (by exact Nat.le_of_ble_eq_true rfl) (fun ro n' h' q _ => ?_) (fun E n' h' q _ => by cases q.1)
      obtain ⟨q1, q2, q3⟩ := q
      rw [q2, q3]
      cases q1
      refine wa_istore dL_law_2860 rfl ?_
      refine wa_aload_n dL_law_2862 rfl ?_
      refine l_rd (q := 1) (x := nI r) e1 dL_law_2863 dL_law_2864 dL_law_2866 dL_law_2867 dL_law_2868 (by decide) (by omega) hL ?_
      refine c_VI dL_law_2869 (mm_restore_2 hn hr2 h1' (by rw [← hke.1]; exact h2)) lk_L_311 rfl (isO_MO _ _ _) rfl (ltS (by omega)) ?_ (hR := (fitL (by decide) (by decide) (by omega) (by omega)))
      exact l_tailE (j := 2) dL_law_2872 dL_law_2874 dL_law_2875 dL_law_2878 dL_law_2880 dL_law_2885 (o2 := 15) dL_law_2887 dL_law_2902 (by decide) (by omega) (by decide) (by decide) (th_0 _ _) (by omega) (by omega) (hQ _ _ _ _ _ _ _ _ _ (by omega) (by omega) (by omega) (by omega) ((hI.thI 2).mono (by omega) (Nat.le_refl _) hcb))
    · skip
      have hk2 := hke.2 h2
      refine wa_aload_n dL_law_2849 rfl ?_
      refine l_rd (q := 1) (x := nI r) e1 dL_law_2850 dL_law_2851 dL_law_2853 dL_law_2854 dL_law_2855 (by decide) (by omega) hL ?_
      refine wa_aload_n dL_law_2856 rfl ?_
      refine wa_callW (As := [.ref 0, .int (nI r), .ref 277]) dL_law_2857 lk_L_309 (wl_restore_0 (P := fun v' n' S' => n' = n ∧ v' = (r467 (S.1 273) (467 * r) 1) ∧ ∃ S1, REM S S1 (S.1 268) c ∧ HH S' 34 (r467 (S.1 273) (467 * r)) (fun _ => True) ∧ FRc 34 S1 S' ∧ (∀ i, i < rn (r467 (S.1 273) (467 * r)) → S'.2.1 (34 + 5 + 3 * i) = S1.2.1 (221 + 23 * r + 5 + 3 * i))) hn (vr_restore_0 hn hh hg hI.pp hI.c6 hI.h7 hr2 h1' h2 hk2.1 hk2.2.1) (fun r0 n' h' q => by obtain ⟨p1, v, S', p2, p3, S1, p4, p5, p6, p7, p8⟩ := q; exact ⟨v, S', p2, p3, p1, p8, S1, p4, p5, p6, p7⟩)) rfl (by exact Nat.le_of_ble_eq_true rfl) (fitL (by decide) (by decide) (by omega) (by omega)) (by exact Nat.le_of_ble_eq_true rfl) (fun ro n' h' q _ => ?_) (fun E n' h' q _ => by cases q.1)
      obtain ⟨q1, v, S', q2, -, q3, q4, S1, q5, q6, q7, q8⟩ := q
      cases q1
      rw [q2, q3, q4]
      obtain ⟨m1, m2⟩ := hI.cm q5 q7
      have e8 := m2 268 (by decide)
      have e18 : S'.1 267 18 = nI c := (congrFun (m2 267 (by decide)) 18).trans hI.h18
      have hV1 : VG T (S'.1 268) := by rw [e8]; exact hg.1
      have hM1 : RM S' := RM_of hI.c6 e18
      have hTg : T < 2147400000 := by omega
      have e8' : (so S' (((r467 (S.1 273) (467 * r) 1) : Int32).toInt64)).1 268 = S.1 268 := e8
      have e73' : (so S' (((r467 (S.1 273) (467 * r) 1) : Int32).toInt64)).1 273 = S.1 273 := m2 273 (by decide)
      have h74 : ¬ (so S' (((r467 (S.1 273) (467 * r) 1) : Int32).toInt64)).1 274 r = 0 := fun z => h2 (hke.1.trans ((congrFun (m2 274 (by decide)) r).symm.trans z))
      have hN := (hI.restore q5 hr2 h2 q6 q7 q8).soI (((r467 (S.1 273) (467 * r) 1) : Int32).toInt64)
      have hM := mm_restore_0 (S := so S' (((r467 (S.1 273) (467 * r) 1) : Int32).toInt64)) hn m1 hV1 hM1 hTg hr2 h1' h74
      rw [f_rem_so, e8', e73'] at hM
      refine wa_istore dL_law_2860 rfl ?_
      refine wa_aload_n dL_law_2862 rfl ?_
      refine l_rd (q := 1) (x := nI r) e1 dL_law_2863 dL_law_2864 dL_law_2866 dL_law_2867 dL_law_2868 (by decide) (by omega) hL ?_
      refine c_VI dL_law_2869 (AM.v hM (show S.1 273 (467 * r + 1) = r467 (S.1 273) (467 * r) 1 from (if_pos (by decide : 1 < 467)).symm)) lk_L_311 rfl (isO_MO _ _ _) rfl (ltS (by omega)) ?_ (hR := (fitL (by decide) (by decide) (by omega) (by omega)))
      exact l_tail0 dL_law_2872 dL_law_2874 dL_law_2875 dL_law_2878 dL_law_2880 dL_law_2885 dL_law_2887 dL_law_2890 dL_law_2891 dL_law_2892 dL_law_2893 dL_law_2895 dL_law_2896 dL_law_2897 dL_law_2902 (by decide) (by omega) (h0C hI.c6 e18 _ _) rfl (by omega) (by omega) (hQ _ _ _ _ _ _ _ _ _ (by omega) (by omega) (by omega) (by omega) (hN.mono (by omega) (Nat.le_refl _) hcb))
  · skip
    refine wa_aload_n dL_law_2849 rfl ?_
    refine l_rd (q := 1) (x := xs (i + 1)) rfl dL_law_2850 dL_law_2851 dL_law_2853 dL_law_2854 dL_law_2855 (by decide) (by omega) hL ?_
    refine wa_aload_n dL_law_2856 rfl ?_
    refine wa_callW (As := [.ref 0, .int (xs (i + 1)), .ref 277]) dL_law_2857 lk_L_309 (wl_restore_1 hn (vr_restore_1 hn _ h1)) rfl (by exact Nat.le_of_ble_eq_true rfl) (fitL (by decide) (by decide) (by omega) (by omega)) (by exact Nat.le_of_ble_eq_true rfl) (fun ro n' h' q _ => ?_) (fun E n' h' q _ => by cases q.1)
    obtain ⟨q1, q2, q3⟩ := q
    rw [q2, q3]
    cases q1
    refine wa_istore dL_law_2860 rfl ?_
    refine wa_aload_n dL_law_2862 rfl ?_
    refine l_rd (q := 1) (x := xs (i + 1)) rfl dL_law_2863 dL_law_2864 dL_law_2866 dL_law_2867 dL_law_2868 (by decide) (by omega) hL ?_
    refine c_VI dL_law_2869 (mm_restore_1 hn _ h1) lk_L_311 rfl (isO_MO _ _ _) rfl (ltS (by omega)) ?_ (hR := (fitL (by decide) (by decide) (by omega) (by omega)))
    exact l_tailE (j := 1) dL_law_2872 dL_law_2874 dL_law_2875 dL_law_2878 dL_law_2880 dL_law_2885 (o2 := 15) dL_law_2887 dL_law_2902 (by decide) (by omega) (by decide) (by decide) (th_0 _ _) (by omega) (by omega) (hQ _ _ _ _ _ _ _ _ _ (by omega) (by omega) (by omega) (by omega) ((hI.thI 1).mono (by omega) (Nat.le_refl _) hcb))
theorem lc_undo {L : Nat} {xs : Nat → Int32} {Q : ab_Q} {k z n i c : Nat} {a b c1 d : Option Value} {S : SS} {T : Int} (hi : i + 6 ≤ L) (hL : L ≤ 3072) (hI : INV T n c S) (hT0 : 0 ≤ T) (hT : T ≤ 110000) (hk : k + 80 ≤ 601024) (hz : z + 13300 ≤ 7293034) (hnb : n + 80 ≤ 900000) (hQ : LK L xs Q T n k z i) : LX L xs Q k z 2905 (lsL i a b c1 d) [] n (Hp S) := by
  have hn := hI.n
  have hh := hI.hh
  have hg := hI.gg
  have hm := hI.m
  have hcb := hI.1.2.1
  have e9 : ab_CB = 1000000 := rfl
  rcases c with _ | c
  · skip
    refine wa_aload_n dL_law_2905 rfl ?_
    refine wa_aload_n dL_law_2906 rfl ?_
    refine wa_callW (As := [.ref 0, .ref 277]) dL_law_2907 lk_L_312 (wl_undo_1 hn (vr_undo_1 hn hI.h7)) rfl (by exact Nat.le_of_ble_eq_true rfl) (fitL (by decide) (by decide) (by omega) (by omega)) (by exact Nat.le_of_ble_eq_true rfl) (fun ro n' h' q _ => ?_) (fun E n' h' q _ => by cases q.1)
    obtain ⟨q1, q2, q3⟩ := q
    rw [q2, q3]
    cases q1
    refine wa_istore dL_law_2910 rfl ?_
    refine wa_aload_n dL_law_2912 rfl ?_
    refine c_VI dL_law_2913 (mm_undo_1 hn (fun z => absurd (hI.h18 ▸ z) (by decide))) lk_L_315 rfl (isO_MO _ _ _) rfl (ltS (by omega)) ?_ (hR := (fitL (by decide) (by decide) (by omega) (by omega)))
    exact l_tailE (j := 1) dL_law_2916 dL_law_2918 dL_law_2919 dL_law_2922 dL_law_2924 dL_law_2929 (o2 := 15) dL_law_2931 dL_law_2946 (by decide) (by omega) (by decide) (by decide) (th_0 _ _) (by omega) (by omega) (hQ _ _ _ _ _ _ _ _ _ (by omega) (by omega) (by omega) (by omega) ((hI.thI 1).mono (by omega) (Nat.le_refl _) hcb))
  · skip
    have hc6 := hI.c6
    have hc5 : c < 6 := by omega
    have hk2 := hI.2.2.1.2.2.2.2 c (Nat.lt_succ_self c)
    refine wa_aload_n dL_law_2905 rfl ?_
    refine wa_aload_n dL_law_2906 rfl ?_
    refine wa_callW (As := [.ref 0, .ref 277]) dL_law_2907 lk_L_312 (wl_undo_0 (P := fun v' n' S' => n' = n ∧ v' = (nI c) ∧ FRc 34 (ss S 0 7 (nI c)) S' ∧ HH S' 34 (r467 (S.1 275) (467 * c)) (fun _ => True) ∧ (∀ i, i < rn (r467 (S.1 275) (467 * c)) → S'.2.1 (34 + 5 + 3 * i) = S.2.1 (S.2.2.1 c + 5 + 3 * i))) hn (vr_undo_0 hn hI.pp hc5 hI.h7 hk2.1 hk2.2.1) (fun r0 n' h' q => by obtain ⟨p1, v, S', p2, p3, p4, p5, p6, p7⟩ := q; exact ⟨v, S', p2, p3, p1, p7, p4, p5, p6⟩)) rfl (by exact Nat.le_of_ble_eq_true rfl) (fitL (by decide) (by decide) (by omega) (by omega)) (by exact Nat.le_of_ble_eq_true rfl) (fun ro n' h' q _ => ?_) (fun E n' h' q _ => by cases q.1)
    obtain ⟨q1, v, S', q2, -, q3, q4, q5, q6, q7⟩ := q
    cases q1
    rw [q2, q3, q4]
    have m2 : ∀ a, 57 ≤ a → S'.1 a = S.1 a := fun a ha => ((q5.2 a (by omega)).1).trans (ss_o S _ _ (by omega))
    have e8' : (so S' (((nI c) : Int32).toInt64)).1 268 = S.1 268 := m2 268 (by decide)
    have e75' : (so S' (((nI c) : Int32).toInt64)).1 275 = S.1 275 := m2 275 (by decide)
    have hN := (hI.undo q5 q6 q7).soI (((nI c) : Int32).toInt64)
    have hM := mm_undo_0 (S := so S' (((nI c) : Int32).toInt64)) hn hc5 ((congrFun (m2 267 (by decide)) 18).trans hI.h18)
    rw [e8', e75'] at hM
    refine wa_istore dL_law_2910 rfl ?_
    refine wa_aload_n dL_law_2912 rfl ?_
    refine c_VI dL_law_2913 hM lk_L_315 rfl (isO_MO _ _ _) rfl (ltS (by omega)) ?_ (hR := (fitL (by decide) (by decide) (by omega) (by omega)))
    exact l_tail0 dL_law_2916 dL_law_2918 dL_law_2919 dL_law_2922 dL_law_2924 dL_law_2929 dL_law_2931 dL_law_2934 dL_law_2935 dL_law_2936 dL_law_2937 dL_law_2939 dL_law_2940 dL_law_2941 dL_law_2946 (by decide) (by omega) (k0U _ _ _) rfl (by omega) (by omega) (hQ _ _ _ _ _ _ _ _ _ (by omega) (by omega) (by omega) (by omega) (hN.mono (by omega) (Nat.le_refl _) hcb))
