/-! The law's cases: reads. Written by program (wip/whole/gen/m890.py). -/
theorem lc_target {L : Nat} {xs : Nat → Int32} {Q : ab_Q} {k z n i c : Nat} {a b c1 d : Option Value} {S : SS} {T : Int} (hi : i + 6 ≤ L) (hL : L ≤ 3072) (hI : INV T n c S) (hT0 : 0 ≤ T) (hT : T ≤ 110000) (hk : k + 80 ≤ 601024) (hz : z + 13300 ≤ 7293034) (hnb : n + 80 ≤ 900000) (hQ : LK L xs Q T n k z i) : LX L xs Q k z 652 (lsL i a b c1 d) [] n (Hp S) := by
  have hn := hI.n
  have hh := hI.hh
  have hg := hI.gg
  have hm := hI.m
  have hcb := hI.1.2.1
  have e9 : ab_CB = 1000000 := rfl
  by_cases h1 : 0 ≤ xs (i + 1) ∧ xs (i + 1) < S.1 268 0
  · skip
    obtain ⟨r, hr, hr6, e1⟩ := hI.rnI h1
    have h1' : 0 ≤ nI r ∧ nI r < S.1 268 0 := by rw [← e1]; exact h1
    refine wa_aload_n dL_law_652 rfl ?_
    refine l_rd (q := 1) (x := nI r) e1 dL_law_653 dL_law_654 dL_law_656 dL_law_657 dL_law_658 (by decide) (by omega) hL ?_
    refine wa_aload_n dL_law_659 rfl ?_
    refine wa_callW (As := [.ref 0, .int (nI r), .ref 277]) dL_law_660 lk_L_193 (wl_target_0 (P := fun v' n' S' => n' = n ∧ v' = (tgt (S.1 268) r) ∧ S' = S) hn (vr_target_0 hn hh hg (by omega) hr) (fun r n' h' q => ⟨_, _, q.1, q.2.2, q.2.1, rfl, rfl⟩)) rfl (by exact Nat.le_of_ble_eq_true rfl) (fitL (by decide) (by decide) (by omega) (by omega)) (by exact Nat.le_of_ble_eq_true rfl) (fun ro n' h' q _ => ?_) (fun E n' h' q _ => by cases q.1)
    obtain ⟨q1, v, S', q2, -, q3, q4, q5⟩ := q
    cases q1
    rw [q2, q3, q4, q5]
    have hI0 := hI.soI ((tgt (S.1 268) r) : Int32).toInt64
    refine wa_istore dL_law_663 rfl ?_
    refine wa_aload_n dL_law_665 rfl ?_
    refine l_rd (q := 1) (x := nI r) e1 dL_law_666 dL_law_667 dL_law_669 dL_law_670 dL_law_671 (by decide) (by omega) hL ?_
    refine c_VI dL_law_672 (AM.v (mm_target_0 hn hI0.m hI0.gg.1 hr6 (rk_of hI0.m h1')) rfl) lk_L_195 rfl (isO_MO _ _ _) rfl (ltS (by omega)) ?_ (hR := (fitL (by decide) (by decide) (by omega) (by omega)))
    exact l_tail0 dL_law_675 dL_law_677 dL_law_678 dL_law_681 dL_law_683 dL_law_688 dL_law_690 dL_law_693 dL_law_694 dL_law_695 dL_law_696 dL_law_698 dL_law_699 dL_law_700 dL_law_705 (by decide) (by omega) (th_0 _ _) rfl (by omega) (by omega) (hQ _ _ _ _ _ _ _ _ _ (by omega) (by omega) (by omega) (by omega) ((hI0.thI 0).mono (by omega) (Nat.le_refl _) hcb))
  · skip
    refine wa_aload_n dL_law_652 rfl ?_
    refine l_rd (q := 1) (x := xs (i + 1)) rfl dL_law_653 dL_law_654 dL_law_656 dL_law_657 dL_law_658 (by decide) (by omega) hL ?_
    refine wa_aload_n dL_law_659 rfl ?_
    refine wa_callW (As := [.ref 0, .int (xs (i + 1)), .ref 277]) dL_law_660 lk_L_193 (wl_target_1 hn (vr_target_1 hn hh hg _ h1)) rfl (by exact Nat.le_of_ble_eq_true rfl) (fitL (by decide) (by decide) (by omega) (by omega)) (by exact Nat.le_of_ble_eq_true rfl) (fun ro n' h' q _ => ?_) (fun E n' h' q _ => by cases q.1)
    obtain ⟨q1, q2, q3⟩ := q
    rw [q2, q3]
    cases q1
    refine wa_istore dL_law_663 rfl ?_
    refine wa_aload_n dL_law_665 rfl ?_
    refine l_rd (q := 1) (x := xs (i + 1)) rfl dL_law_666 dL_law_667 dL_law_669 dL_law_670 dL_law_671 (by decide) (by omega) hL ?_
    refine c_VI dL_law_672 (mm_target_1 hn hm hg.1 _ (rk_no hm h1)) lk_L_195 rfl (isO_MO _ _ _) rfl (ltS (by omega)) ?_ (hR := (fitL (by decide) (by decide) (by omega) (by omega)))
    exact l_tailE (j := 1) dL_law_675 dL_law_677 dL_law_678 dL_law_681 dL_law_683 dL_law_688 (o2 := 15) dL_law_690 dL_law_705 (by decide) (by omega) (by decide) (by decide) (th_0 _ _) (by omega) (by omega) (hQ _ _ _ _ _ _ _ _ _ (by omega) (by omega) (by omega) (by omega) ((hI.thI 1).mono (by omega) (Nat.le_refl _) hcb))
theorem lc_wanted {L : Nat} {xs : Nat → Int32} {Q : ab_Q} {k z n i c : Nat} {a b c1 d : Option Value} {S : SS} {T : Int} (hi : i + 6 ≤ L) (hL : L ≤ 3072) (hI : INV T n c S) (hT0 : 0 ≤ T) (hT : T ≤ 110000) (hk : k + 80 ≤ 601024) (hz : z + 13300 ≤ 7293034) (hnb : n + 80 ≤ 900000) (hQ : LK L xs Q T n k z i) : LX L xs Q k z 844 (lsL i a b c1 d) [] n (Hp S) := by
  have hn := hI.n
  have hh := hI.hh
  have hg := hI.gg
  have hm := hI.m
  have hcb := hI.1.2.1
  have e9 : ab_CB = 1000000 := rfl
  by_cases h1 : 0 ≤ xs (i + 1) ∧ xs (i + 1) < S.1 268 0
  · skip
    obtain ⟨r, hr, hr6, e1⟩ := hI.rnI h1
    have h1' : 0 ≤ nI r ∧ nI r < S.1 268 0 := by rw [← e1]; exact h1
    refine wa_aload_n dL_law_844 rfl ?_
    refine l_rd (q := 1) (x := nI r) e1 dL_law_845 dL_law_846 dL_law_848 dL_law_849 dL_law_850 (by decide) (by omega) hL ?_
    refine wa_aload_n dL_law_851 rfl ?_
    refine wa_callW (As := [.ref 0, .int (nI r), .ref 277]) dL_law_852 lk_L_202 (wl_wanted_0 (P := fun v' n' S' => n' = n ∧ v' = (wnt (S.1 268) r) ∧ S' = S) hn (vr_wanted_0 hn hh hg (by omega) hr) (fun r n' h' q => ⟨_, _, q.1, q.2.2, q.2.1, rfl, rfl⟩)) rfl (by exact Nat.le_of_ble_eq_true rfl) (fitL (by decide) (by decide) (by omega) (by omega)) (by exact Nat.le_of_ble_eq_true rfl) (fun ro n' h' q _ => ?_) (fun E n' h' q _ => by cases q.1)
    obtain ⟨q1, v, S', q2, -, q3, q4, q5⟩ := q
    cases q1
    rw [q2, q3, q4, q5]
    have hI0 := hI.soI ((wnt (S.1 268) r) : Int32).toInt64
    refine wa_istore dL_law_855 rfl ?_
    refine wa_aload_n dL_law_857 rfl ?_
    refine l_rd (q := 1) (x := nI r) e1 dL_law_858 dL_law_859 dL_law_861 dL_law_862 dL_law_863 (by decide) (by omega) hL ?_
    refine c_VI dL_law_864 (AM.v (mm_wanted_0 hn hI0.m hI0.gg.1 hr6 (rk_of hI0.m h1')) rfl) lk_L_204 rfl (isO_MO _ _ _) rfl (ltS (by omega)) ?_ (hR := (fitL (by decide) (by decide) (by omega) (by omega)))
    exact l_tail0 dL_law_867 dL_law_869 dL_law_870 dL_law_873 dL_law_875 dL_law_880 dL_law_882 dL_law_885 dL_law_886 dL_law_887 dL_law_888 dL_law_890 dL_law_891 dL_law_892 dL_law_897 (by decide) (by omega) (th_0 _ _) rfl (by omega) (by omega) (hQ _ _ _ _ _ _ _ _ _ (by omega) (by omega) (by omega) (by omega) ((hI0.thI 0).mono (by omega) (Nat.le_refl _) hcb))
  · skip
    refine wa_aload_n dL_law_844 rfl ?_
    refine l_rd (q := 1) (x := xs (i + 1)) rfl dL_law_845 dL_law_846 dL_law_848 dL_law_849 dL_law_850 (by decide) (by omega) hL ?_
    refine wa_aload_n dL_law_851 rfl ?_
    refine wa_callW (As := [.ref 0, .int (xs (i + 1)), .ref 277]) dL_law_852 lk_L_202 (wl_wanted_1 hn (vr_wanted_1 hn hh hg _ h1)) rfl (by exact Nat.le_of_ble_eq_true rfl) (fitL (by decide) (by decide) (by omega) (by omega)) (by exact Nat.le_of_ble_eq_true rfl) (fun ro n' h' q _ => ?_) (fun E n' h' q _ => by cases q.1)
    obtain ⟨q1, q2, q3⟩ := q
    rw [q2, q3]
    cases q1
    refine wa_istore dL_law_855 rfl ?_
    refine wa_aload_n dL_law_857 rfl ?_
    refine l_rd (q := 1) (x := xs (i + 1)) rfl dL_law_858 dL_law_859 dL_law_861 dL_law_862 dL_law_863 (by decide) (by omega) hL ?_
    refine c_VI dL_law_864 (mm_wanted_1 hn hm hg.1 _ (rk_no hm h1)) lk_L_204 rfl (isO_MO _ _ _) rfl (ltS (by omega)) ?_ (hR := (fitL (by decide) (by decide) (by omega) (by omega)))
    exact l_tailE (j := 1) dL_law_867 dL_law_869 dL_law_870 dL_law_873 dL_law_875 dL_law_880 (o2 := 15) dL_law_882 dL_law_897 (by decide) (by omega) (by decide) (by decide) (th_0 _ _) (by omega) (by omega) (hQ _ _ _ _ _ _ _ _ _ (by omega) (by omega) (by omega) (by omega) ((hI.thI 1).mono (by omega) (Nat.le_refl _) hcb))
theorem lc_reckoned {L : Nat} {xs : Nat → Int32} {Q : ab_Q} {k z n i c : Nat} {a b c1 d : Option Value} {S : SS} {T : Int} (hi : i + 6 ≤ L) (hL : L ≤ 3072) (hI : INV T n c S) (hT0 : 0 ≤ T) (hT : T ≤ 110000) (hk : k + 80 ≤ 601024) (hz : z + 13300 ≤ 7293034) (hnb : n + 80 ≤ 900000) (hQ : LK L xs Q T n k z i) : LX L xs Q k z 1870 (lsL i a b c1 d) [] n (Hp S) := by
  have hn := hI.n
  have hh := hI.hh
  have hg := hI.gg
  have hm := hI.m
  have hcb := hI.1.2.1
  have e9 : ab_CB = 1000000 := rfl
  by_cases h1 : 0 ≤ xs (i + 1) ∧ xs (i + 1) < S.1 268 0
  · skip
    obtain ⟨r, hr, hr6, e1⟩ := hI.rnI h1
    have h1' : 0 ≤ nI r ∧ nI r < S.1 268 0 := by rw [← e1]; exact h1
    refine wa_aload_n dL_law_1870 rfl ?_
    refine l_rd (q := 1) (x := nI r) e1 dL_law_1871 dL_law_1872 dL_law_1874 dL_law_1875 dL_law_1876 (by decide) (by omega) hL ?_
    refine wa_aload_n dL_law_1877 rfl ?_
    refine wa_callW (As := [.ref 0, .int (nI r), .ref 277]) dL_law_1878 lk_L_266 (wl_reckoned_0 (P := fun v' n' S' => n' = n ∧ v' = (of (S.1 268) r 2) ∧ S' = S) hn (vr_reckoned_0 hn hh hg (by omega) hr) (fun r n' h' q => ⟨_, _, q.1, q.2.2, q.2.1, rfl, rfl⟩)) rfl (by exact Nat.le_of_ble_eq_true rfl) (fitL (by decide) (by decide) (by omega) (by omega)) (by exact Nat.le_of_ble_eq_true rfl) (fun ro n' h' q _ => ?_) (fun E n' h' q _ => by cases q.1)
    obtain ⟨q1, v, S', q2, -, q3, q4, q5⟩ := q
    cases q1
    rw [q2, q3, q4, q5]
    have hI0 := hI.soI ((of (S.1 268) r 2) : Int32).toInt64
    refine wa_istore dL_law_1881 rfl ?_
    refine wa_aload_n dL_law_1883 rfl ?_
    refine l_rd (q := 1) (x := nI r) e1 dL_law_1884 dL_law_1885 dL_law_1887 dL_law_1888 dL_law_1889 (by decide) (by omega) hL ?_
    refine c_VI dL_law_1890 (AM.v (mm_reckoned_0 hn hI0.m hI0.gg.1 hr6 (rk_of hI0.m h1')) rfl) lk_L_268 rfl (isO_MO _ _ _) rfl (ltS (by omega)) ?_ (hR := (fitL (by decide) (by decide) (by omega) (by omega)))
    exact l_tail0 dL_law_1893 dL_law_1895 dL_law_1896 dL_law_1899 dL_law_1901 dL_law_1906 dL_law_1908 dL_law_1911 dL_law_1912 dL_law_1913 dL_law_1914 dL_law_1916 dL_law_1917 dL_law_1918 dL_law_1923 (by decide) (by omega) (th_0 _ _) rfl (by omega) (by omega) (hQ _ _ _ _ _ _ _ _ _ (by omega) (by omega) (by omega) (by omega) ((hI0.thI 0).mono (by omega) (Nat.le_refl _) hcb))
  · skip
    refine wa_aload_n dL_law_1870 rfl ?_
    refine l_rd (q := 1) (x := xs (i + 1)) rfl dL_law_1871 dL_law_1872 dL_law_1874 dL_law_1875 dL_law_1876 (by decide) (by omega) hL ?_
    refine wa_aload_n dL_law_1877 rfl ?_
    refine wa_callW (As := [.ref 0, .int (xs (i + 1)), .ref 277]) dL_law_1878 lk_L_266 (wl_reckoned_1 hn (vr_reckoned_1 hn hh hg _ h1)) rfl (by exact Nat.le_of_ble_eq_true rfl) (fitL (by decide) (by decide) (by omega) (by omega)) (by exact Nat.le_of_ble_eq_true rfl) (fun ro n' h' q _ => ?_) (fun E n' h' q _ => by cases q.1)
    obtain ⟨q1, q2, q3⟩ := q
    rw [q2, q3]
    cases q1
    refine wa_istore dL_law_1881 rfl ?_
    refine wa_aload_n dL_law_1883 rfl ?_
    refine l_rd (q := 1) (x := xs (i + 1)) rfl dL_law_1884 dL_law_1885 dL_law_1887 dL_law_1888 dL_law_1889 (by decide) (by omega) hL ?_
    refine c_VI dL_law_1890 (mm_reckoned_1 hn hm hg.1 _ (rk_no hm h1)) lk_L_268 rfl (isO_MO _ _ _) rfl (ltS (by omega)) ?_ (hR := (fitL (by decide) (by decide) (by omega) (by omega)))
    exact l_tailE (j := 1) dL_law_1893 dL_law_1895 dL_law_1896 dL_law_1899 dL_law_1901 dL_law_1906 (o2 := 15) dL_law_1908 dL_law_1923 (by decide) (by omega) (by decide) (by decide) (th_0 _ _) (by omega) (by omega) (hQ _ _ _ _ _ _ _ _ _ (by omega) (by omega) (by omega) (by omega) ((hI.thI 1).mono (by omega) (Nat.le_refl _) hcb))
theorem lc_why {L : Nat} {xs : Nat → Int32} {Q : ab_Q} {k z n i c : Nat} {a b c1 d : Option Value} {S : SS} {T : Int} (hi : i + 6 ≤ L) (hL : L ≤ 3072) (hI : INV T n c S) (hT0 : 0 ≤ T) (hT : T ≤ 110000) (hk : k + 80 ≤ 601024) (hz : z + 13300 ≤ 7293034) (hnb : n + 80 ≤ 900000) (hQ : LK L xs Q T n k z i) : LX L xs Q k z 900 (lsL i a b c1 d) [] n (Hp S) := by
  have hn := hI.n
  have hh := hI.hh
  have hg := hI.gg
  have hm := hI.m
  have hcb := hI.1.2.1
  have e9 : ab_CB = 1000000 := rfl
  by_cases h1 : 0 ≤ xs (i + 1) ∧ xs (i + 1) < S.1 268 0
  · skip
    obtain ⟨r, hr, hr6, e1⟩ := hI.rnI h1
    have h1' : 0 ≤ nI r ∧ nI r < S.1 268 0 := by rw [← e1]; exact h1
    refine wa_aload_n dL_law_900 rfl ?_
    refine l_rd (q := 1) (x := nI r) e1 dL_law_901 dL_law_902 dL_law_904 dL_law_905 dL_law_906 (by decide) (by omega) hL ?_
    refine wa_aload_n dL_law_907 rfl ?_
    refine wa_callW (As := [.ref 0, .int (nI r), .ref 277]) dL_law_908 lk_L_205 (wl_why_0 (P := fun v' n' S' => n' = n ∧ v' = (if ¬ of (S.1 268) r 1 = wnt (S.1 268) r then (if 0 < of (S.1 268) r 2 then 0 else 1) else if 0 < of (S.1 268) r 7 then 2 else if i_abs (mis (S.1 268) r) ≤ (S.1 268) 7 then 3 else if of (S.1 268) r 0 < tgt (S.1 268) r then 5 else 4) ∧ S' = S) hn (vr_why_0 hn hh hg (by omega) hr) (fun r n' h' q => ⟨_, _, q.1, q.2.2, q.2.1, rfl, rfl⟩)) rfl (by exact Nat.le_of_ble_eq_true rfl) (fitL (by decide) (by decide) (by omega) (by omega)) (by exact Nat.le_of_ble_eq_true rfl) (fun ro n' h' q _ => ?_) (fun E n' h' q _ => by cases q.1)
    obtain ⟨q1, v, S', q2, -, q3, q4, q5⟩ := q
    cases q1
    rw [q2, q3, q4, q5]
    have hI0 := hI.soI ((if ¬ of (S.1 268) r 1 = wnt (S.1 268) r then (if 0 < of (S.1 268) r 2 then 0 else 1) else if 0 < of (S.1 268) r 7 then 2 else if i_abs (mis (S.1 268) r) ≤ (S.1 268) 7 then 3 else if of (S.1 268) r 0 < tgt (S.1 268) r then 5 else 4) : Int32).toInt64
    refine wa_istore dL_law_911 rfl ?_
    refine wa_aload_n dL_law_913 rfl ?_
    refine l_rd (q := 1) (x := nI r) e1 dL_law_914 dL_law_915 dL_law_917 dL_law_918 dL_law_919 (by decide) (by omega) hL ?_
    refine c_VI dL_law_920 (AM.v (mm_why_0 hn hI0.m hI0.gg.1 hr6 (rk_of hI0.m h1')) rfl) lk_L_207 rfl (isO_MO _ _ _) rfl (ltS (by omega)) ?_ (hR := (fitL (by decide) (by decide) (by omega) (by omega)))
    exact l_tail0 dL_law_923 dL_law_925 dL_law_926 dL_law_929 dL_law_931 dL_law_936 dL_law_938 dL_law_941 dL_law_942 dL_law_943 dL_law_944 dL_law_946 dL_law_947 dL_law_948 dL_law_953 (by decide) (by omega) (th_0 _ _) rfl (by omega) (by omega) (hQ _ _ _ _ _ _ _ _ _ (by omega) (by omega) (by omega) (by omega) ((hI0.thI 0).mono (by omega) (Nat.le_refl _) hcb))
  · skip
    refine wa_aload_n dL_law_900 rfl ?_
    refine l_rd (q := 1) (x := xs (i + 1)) rfl dL_law_901 dL_law_902 dL_law_904 dL_law_905 dL_law_906 (by decide) (by omega) hL ?_
    refine wa_aload_n dL_law_907 rfl ?_
    refine wa_callW (As := [.ref 0, .int (xs (i + 1)), .ref 277]) dL_law_908 lk_L_205 (wl_why_1 hn (vr_why_1 hn hh hg _ h1)) rfl (by exact Nat.le_of_ble_eq_true rfl) (fitL (by decide) (by decide) (by omega) (by omega)) (by exact Nat.le_of_ble_eq_true rfl) (fun ro n' h' q _ => ?_) (fun E n' h' q _ => by cases q.1)
    obtain ⟨q1, q2, q3⟩ := q
    rw [q2, q3]
    cases q1
    refine wa_istore dL_law_911 rfl ?_
    refine wa_aload_n dL_law_913 rfl ?_
    refine l_rd (q := 1) (x := xs (i + 1)) rfl dL_law_914 dL_law_915 dL_law_917 dL_law_918 dL_law_919 (by decide) (by omega) hL ?_
    refine c_VI dL_law_920 (mm_why_1 hn hm hg.1 _ (rk_no hm h1)) lk_L_207 rfl (isO_MO _ _ _) rfl (ltS (by omega)) ?_ (hR := (fitL (by decide) (by decide) (by omega) (by omega)))
    exact l_tailE (j := 1) dL_law_923 dL_law_925 dL_law_926 dL_law_929 dL_law_931 dL_law_936 (o2 := 15) dL_law_938 dL_law_953 (by decide) (by omega) (by decide) (by decide) (th_0 _ _) (by omega) (by omega) (hQ _ _ _ _ _ _ _ _ _ (by omega) (by omega) (by omega) (by omega) ((hI.thI 1).mono (by omega) (Nat.le_refl _) hcb))
theorem lc_count {L : Nat} {xs : Nat → Int32} {Q : ab_Q} {k z n i c : Nat} {a b c1 d : Option Value} {S : SS} {T : Int} (hi : i + 6 ≤ L) (hL : L ≤ 3072) (hI : INV T n c S) (hT0 : 0 ≤ T) (hT : T ≤ 110000) (hk : k + 80 ≤ 601024) (hz : z + 13300 ≤ 7293034) (hnb : n + 80 ≤ 900000) (hQ : LK L xs Q T n k z i) : LX L xs Q k z 584 (lsL i a b c1 d) [] n (Hp S) := by
  have hn := hI.n
  have hh := hI.hh
  have hg := hI.gg
  have hm := hI.m
  have hcb := hI.1.2.1
  have e9 : ab_CB = 1000000 := rfl
  by_cases h1 : 0 ≤ xs (i + 1) ∧ xs (i + 1) < S.1 268 0
  · skip
    obtain ⟨r, hr, hr6, e1⟩ := hI.rnI h1
    have h1' : 0 ≤ nI r ∧ nI r < S.1 268 0 := by rw [← e1]; exact h1
    by_cases h2 : inr (xs (i + 2)) 0 5
    · skip
      obtain ⟨w, hw, e2⟩ := in_nI (m := 5) (by decide) h2
      have hw2 : w < 6 := by omega
      have h2' : inr (nI w) 0 5 := by rw [← e2]; exact h2
      refine wa_aload_n dL_law_584 rfl ?_
      refine l_rd (q := 1) (x := nI r) e1 dL_law_585 dL_law_586 dL_law_588 dL_law_589 dL_law_590 (by decide) (by omega) hL ?_
      refine l_rd (q := 2) (x := nI w) e2 dL_law_591 dL_law_592 dL_law_594 dL_law_595 dL_law_596 (by decide) (by omega) hL ?_
      refine wa_aload_n dL_law_597 rfl ?_
      refine wa_callW (As := [.ref 0, .int (nI r), .int (nI w), .ref 277]) dL_law_598 lk_L_190 (wl_count_0 (P := fun v' n' S' => n' = n ∧ v' = (of (S.1 268) r (12 + w)) ∧ S' = S) hn (vr_count_0 hn hh hg (by omega) hr hw2 h2') (fun r n' h' q => ⟨_, _, q.1, q.2.2, q.2.1, rfl, rfl⟩)) rfl (by exact Nat.le_of_ble_eq_true rfl) (fitL (by decide) (by decide) (by omega) (by omega)) (by exact Nat.le_of_ble_eq_true rfl) (fun ro n' h' q _ => ?_) (fun E n' h' q _ => by cases q.1)
      obtain ⟨q1, v, S', q2, -, q3, q4, q5⟩ := q
      cases q1
      rw [q2, q3, q4, q5]
      have hI0 := hI.soI ((of (S.1 268) r (12 + w)) : Int32).toInt64
      refine wa_istore dL_law_601 rfl ?_
      refine wa_aload_n dL_law_603 rfl ?_
      refine l_rd (q := 1) (x := nI r) e1 dL_law_604 dL_law_605 dL_law_607 dL_law_608 dL_law_609 (by decide) (by omega) hL ?_
      refine l_rd (q := 2) (x := nI w) e2 dL_law_610 dL_law_611 dL_law_613 dL_law_614 dL_law_615 (by decide) (by omega) hL ?_
      refine c_VI dL_law_616 (AM.v (mm_count_0 hn hI0.m hI0.gg.1 hr6 hw2 (rk_of hI0.m h1') h2') rfl) lk_L_192 rfl (isO_MO _ _ _) rfl (ltS (by omega)) ?_ (hR := (fitL (by decide) (by decide) (by omega) (by omega)))
      exact l_tail0 dL_law_619 dL_law_621 dL_law_622 dL_law_625 dL_law_627 dL_law_632 dL_law_634 dL_law_637 dL_law_638 dL_law_639 dL_law_640 dL_law_642 dL_law_643 dL_law_644 dL_law_649 (by decide) (by omega) (th_0 _ _) rfl (by omega) (by omega) (hQ _ _ _ _ _ _ _ _ _ (by omega) (by omega) (by omega) (by omega) ((hI0.thI 0).mono (by omega) (Nat.le_refl _) hcb))
    · skip
      refine wa_aload_n dL_law_584 rfl ?_
      refine l_rd (q := 1) (x := xs (i + 1)) rfl dL_law_585 dL_law_586 dL_law_588 dL_law_589 dL_law_590 (by decide) (by omega) hL ?_
      refine l_rd (q := 2) (x := xs (i + 2)) rfl dL_law_591 dL_law_592 dL_law_594 dL_law_595 dL_law_596 (by decide) (by omega) hL ?_
      refine wa_aload_n dL_law_597 rfl ?_
      refine wa_callW (As := [.ref 0, .int (xs (i + 1)), .int (xs (i + 2)), .ref 277]) dL_law_598 lk_L_190 (wl_count_2 hn (vr_count_2 hn hh hg _ _ h1 h2)) rfl (by exact Nat.le_of_ble_eq_true rfl) (fitL (by decide) (by decide) (by omega) (by omega)) (by exact Nat.le_of_ble_eq_true rfl) (fun ro n' h' q _ => ?_) (fun E n' h' q _ => by cases q.1)
      obtain ⟨q1, q2, q3⟩ := q
      rw [q2, q3]
      cases q1
      refine wa_istore dL_law_601 rfl ?_
      refine wa_aload_n dL_law_603 rfl ?_
      refine l_rd (q := 1) (x := xs (i + 1)) rfl dL_law_604 dL_law_605 dL_law_607 dL_law_608 dL_law_609 (by decide) (by omega) hL ?_
      refine l_rd (q := 2) (x := xs (i + 2)) rfl dL_law_610 dL_law_611 dL_law_613 dL_law_614 dL_law_615 (by decide) (by omega) hL ?_
      refine c_VI dL_law_616 (mm_count_2 hn hm hg.1 _ _ (rk_of hm h1) h2) lk_L_192 rfl (isO_MO _ _ _) rfl (ltS (by omega)) ?_ (hR := (fitL (by decide) (by decide) (by omega) (by omega)))
      exact l_tailE (j := 2) dL_law_619 dL_law_621 dL_law_622 dL_law_625 dL_law_627 dL_law_632 (o2 := 15) dL_law_634 dL_law_649 (by decide) (by omega) (by decide) (by decide) (th_0 _ _) (by omega) (by omega) (hQ _ _ _ _ _ _ _ _ _ (by omega) (by omega) (by omega) (by omega) ((hI.thI 2).mono (by omega) (Nat.le_refl _) hcb))
  · skip
    refine wa_aload_n dL_law_584 rfl ?_
    refine l_rd (q := 1) (x := xs (i + 1)) rfl dL_law_585 dL_law_586 dL_law_588 dL_law_589 dL_law_590 (by decide) (by omega) hL ?_
    refine l_rd (q := 2) (x := xs (i + 2)) rfl dL_law_591 dL_law_592 dL_law_594 dL_law_595 dL_law_596 (by decide) (by omega) hL ?_
    refine wa_aload_n dL_law_597 rfl ?_
    refine wa_callW (As := [.ref 0, .int (xs (i + 1)), .int (xs (i + 2)), .ref 277]) dL_law_598 lk_L_190 (wl_count_1 hn (vr_count_1 hn hh hg _ _ h1)) rfl (by exact Nat.le_of_ble_eq_true rfl) (fitL (by decide) (by decide) (by omega) (by omega)) (by exact Nat.le_of_ble_eq_true rfl) (fun ro n' h' q _ => ?_) (fun E n' h' q _ => by cases q.1)
    obtain ⟨q1, q2, q3⟩ := q
    rw [q2, q3]
    cases q1
    refine wa_istore dL_law_601 rfl ?_
    refine wa_aload_n dL_law_603 rfl ?_
    refine l_rd (q := 1) (x := xs (i + 1)) rfl dL_law_604 dL_law_605 dL_law_607 dL_law_608 dL_law_609 (by decide) (by omega) hL ?_
    refine l_rd (q := 2) (x := xs (i + 2)) rfl dL_law_610 dL_law_611 dL_law_613 dL_law_614 dL_law_615 (by decide) (by omega) hL ?_
    refine c_VI dL_law_616 (mm_count_1 hn hm hg.1 _ _ (rk_no hm h1)) lk_L_192 rfl (isO_MO _ _ _) rfl (ltS (by omega)) ?_ (hR := (fitL (by decide) (by decide) (by omega) (by omega)))
    exact l_tailE (j := 1) dL_law_619 dL_law_621 dL_law_622 dL_law_625 dL_law_627 dL_law_632 (o2 := 15) dL_law_634 dL_law_649 (by decide) (by omega) (by decide) (by decide) (th_0 _ _) (by omega) (by omega) (hQ _ _ _ _ _ _ _ _ _ (by omega) (by omega) (by omega) (by omega) ((hI.thI 1).mono (by omega) (Nat.le_refl _) hcb))
theorem lc_programmed {L : Nat} {xs : Nat → Int32} {Q : ab_Q} {k z n i c : Nat} {a b c1 d : Option Value} {S : SS} {T : Int} (hi : i + 6 ≤ L) (hL : L ≤ 3072) (hI : INV T n c S) (hT0 : 0 ≤ T) (hT : T ≤ 110000) (hk : k + 80 ≤ 601024) (hz : z + 13300 ≤ 7293034) (hnb : n + 80 ≤ 900000) (hQ : LK L xs Q T n k z i) : LX L xs Q k z 708 (lsL i a b c1 d) [] n (Hp S) := by
  have hn := hI.n
  have hh := hI.hh
  have hg := hI.gg
  have hm := hI.m
  have hcb := hI.1.2.1
  have e9 : ab_CB = 1000000 := rfl
  by_cases h1 : 0 ≤ xs (i + 1) ∧ xs (i + 1) < S.1 268 0
  · skip
    obtain ⟨r, hr, hr6, e1⟩ := hI.rnI h1
    have h1' : 0 ≤ nI r ∧ nI r < S.1 268 0 := by rw [← e1]; exact h1
    by_cases h2 : inr (xs (i + 2)) 0 47
    · skip
      obtain ⟨w, hw, e2⟩ := in_nI (m := 47) (by decide) h2
      have hw2 : w < 48 := by omega
      have h2' : inr (nI w) 0 47 := by rw [← e2]; exact h2
      refine wa_aload_n dL_law_708 rfl ?_
      refine l_rd (q := 1) (x := nI r) e1 dL_law_709 dL_law_710 dL_law_712 dL_law_713 dL_law_714 (by decide) (by omega) hL ?_
      refine l_rd (q := 2) (x := nI w) e2 dL_law_715 dL_law_716 dL_law_718 dL_law_719 dL_law_720 (by decide) (by omega) hL ?_
      refine wa_aload_n dL_law_721 rfl ?_
      refine wa_callW (As := [.ref 0, .int (nI r), .int (nI w), .ref 277]) dL_law_722 lk_L_196 (wl_programmed_0 (P := fun v' n' S' => n' = n ∧ v' = (told (pg (S.1 268) r) w) ∧ S' = S) hn (vr_programmed_0 hn hh hg (by omega) hr hw2 h2') (fun r n' h' q => ⟨_, _, q.1, q.2.2, q.2.1, rfl, rfl⟩)) rfl (by exact Nat.le_of_ble_eq_true rfl) (fitL (by decide) (by decide) (by omega) (by omega)) (by exact Nat.le_of_ble_eq_true rfl) (fun ro n' h' q _ => ?_) (fun E n' h' q _ => by cases q.1)
      obtain ⟨q1, v, S', q2, -, q3, q4, q5⟩ := q
      cases q1
      rw [q2, q3, q4, q5]
      have hI0 := hI.soI ((told (pg (S.1 268) r) w) : Int32).toInt64
      refine wa_istore dL_law_725 rfl ?_
      refine wa_aload_n dL_law_727 rfl ?_
      refine l_rd (q := 1) (x := nI r) e1 dL_law_728 dL_law_729 dL_law_731 dL_law_732 dL_law_733 (by decide) (by omega) hL ?_
      refine l_rd (q := 2) (x := nI w) e2 dL_law_734 dL_law_735 dL_law_737 dL_law_738 dL_law_739 (by decide) (by omega) hL ?_
      refine c_VI dL_law_740 (AM.v (mm_programmed_0 hn hI0.m hI0.gg.1 hr6 hw2 (rk_of hI0.m h1') h2') rfl) lk_L_198 rfl (isO_MO _ _ _) rfl (ltS (by omega)) ?_ (hR := (fitL (by decide) (by decide) (by omega) (by omega)))
      exact l_tail0 dL_law_743 dL_law_745 dL_law_746 dL_law_749 dL_law_751 dL_law_756 dL_law_758 dL_law_761 dL_law_762 dL_law_763 dL_law_764 dL_law_766 dL_law_767 dL_law_768 dL_law_773 (by decide) (by omega) (th_0 _ _) rfl (by omega) (by omega) (hQ _ _ _ _ _ _ _ _ _ (by omega) (by omega) (by omega) (by omega) ((hI0.thI 0).mono (by omega) (Nat.le_refl _) hcb))
    · skip
      refine wa_aload_n dL_law_708 rfl ?_
      refine l_rd (q := 1) (x := xs (i + 1)) rfl dL_law_709 dL_law_710 dL_law_712 dL_law_713 dL_law_714 (by decide) (by omega) hL ?_
      refine l_rd (q := 2) (x := xs (i + 2)) rfl dL_law_715 dL_law_716 dL_law_718 dL_law_719 dL_law_720 (by decide) (by omega) hL ?_
      refine wa_aload_n dL_law_721 rfl ?_
      refine wa_callW (As := [.ref 0, .int (xs (i + 1)), .int (xs (i + 2)), .ref 277]) dL_law_722 lk_L_196 (wl_programmed_2 hn (vr_programmed_2 hn hh hg _ _ h1 h2)) rfl (by exact Nat.le_of_ble_eq_true rfl) (fitL (by decide) (by decide) (by omega) (by omega)) (by exact Nat.le_of_ble_eq_true rfl) (fun ro n' h' q _ => ?_) (fun E n' h' q _ => by cases q.1)
      obtain ⟨q1, q2, q3⟩ := q
      rw [q2, q3]
      cases q1
      refine wa_istore dL_law_725 rfl ?_
      refine wa_aload_n dL_law_727 rfl ?_
      refine l_rd (q := 1) (x := xs (i + 1)) rfl dL_law_728 dL_law_729 dL_law_731 dL_law_732 dL_law_733 (by decide) (by omega) hL ?_
      refine l_rd (q := 2) (x := xs (i + 2)) rfl dL_law_734 dL_law_735 dL_law_737 dL_law_738 dL_law_739 (by decide) (by omega) hL ?_
      refine c_VI dL_law_740 (mm_programmed_2 hn hm hg.1 _ _ (rk_of hm h1) h2) lk_L_198 rfl (isO_MO _ _ _) rfl (ltS (by omega)) ?_ (hR := (fitL (by decide) (by decide) (by omega) (by omega)))
      exact l_tailE (j := 2) dL_law_743 dL_law_745 dL_law_746 dL_law_749 dL_law_751 dL_law_756 (o2 := 15) dL_law_758 dL_law_773 (by decide) (by omega) (by decide) (by decide) (th_0 _ _) (by omega) (by omega) (hQ _ _ _ _ _ _ _ _ _ (by omega) (by omega) (by omega) (by omega) ((hI.thI 2).mono (by omega) (Nat.le_refl _) hcb))
  · skip
    refine wa_aload_n dL_law_708 rfl ?_
    refine l_rd (q := 1) (x := xs (i + 1)) rfl dL_law_709 dL_law_710 dL_law_712 dL_law_713 dL_law_714 (by decide) (by omega) hL ?_
    refine l_rd (q := 2) (x := xs (i + 2)) rfl dL_law_715 dL_law_716 dL_law_718 dL_law_719 dL_law_720 (by decide) (by omega) hL ?_
    refine wa_aload_n dL_law_721 rfl ?_
    refine wa_callW (As := [.ref 0, .int (xs (i + 1)), .int (xs (i + 2)), .ref 277]) dL_law_722 lk_L_196 (wl_programmed_1 hn (vr_programmed_1 hn hh hg _ _ h1)) rfl (by exact Nat.le_of_ble_eq_true rfl) (fitL (by decide) (by decide) (by omega) (by omega)) (by exact Nat.le_of_ble_eq_true rfl) (fun ro n' h' q _ => ?_) (fun E n' h' q _ => by cases q.1)
    obtain ⟨q1, q2, q3⟩ := q
    rw [q2, q3]
    cases q1
    refine wa_istore dL_law_725 rfl ?_
    refine wa_aload_n dL_law_727 rfl ?_
    refine l_rd (q := 1) (x := xs (i + 1)) rfl dL_law_728 dL_law_729 dL_law_731 dL_law_732 dL_law_733 (by decide) (by omega) hL ?_
    refine l_rd (q := 2) (x := xs (i + 2)) rfl dL_law_734 dL_law_735 dL_law_737 dL_law_738 dL_law_739 (by decide) (by omega) hL ?_
    refine c_VI dL_law_740 (mm_programmed_1 hn hm hg.1 _ _ (rk_no hm h1)) lk_L_198 rfl (isO_MO _ _ _) rfl (ltS (by omega)) ?_ (hR := (fitL (by decide) (by decide) (by omega) (by omega)))
    exact l_tailE (j := 1) dL_law_743 dL_law_745 dL_law_746 dL_law_749 dL_law_751 dL_law_756 (o2 := 15) dL_law_758 dL_law_773 (by decide) (by omega) (by decide) (by decide) (th_0 _ _) (by omega) (by omega) (hQ _ _ _ _ _ _ _ _ _ (by omega) (by omega) (by omega) (by omega) ((hI.thI 1).mono (by omega) (Nat.le_refl _) hcb))
theorem lc_entry {L : Nat} {xs : Nat → Int32} {Q : ab_Q} {k z n i c : Nat} {a b c1 d : Option Value} {S : SS} {T : Int} (hi : i + 6 ≤ L) (hL : L ≤ 3072) (hI : INV T n c S) (hT0 : 0 ≤ T) (hT : T ≤ 110000) (hk : k + 80 ≤ 601024) (hz : z + 13300 ≤ 7293034) (hnb : n + 80 ≤ 900000) (hQ : LK L xs Q T n k z i) : LX L xs Q k z 776 (lsL i a b c1 d) [] n (Hp S) := by
  have hn := hI.n
  have hh := hI.hh
  have hg := hI.gg
  have hm := hI.m
  have hcb := hI.1.2.1
  have e9 : ab_CB = 1000000 := rfl
  by_cases h1 : 0 ≤ xs (i + 1) ∧ xs (i + 1) < S.1 268 0
  · skip
    obtain ⟨r, hr, hr6, e1⟩ := hI.rnI h1
    have h1' : 0 ≤ nI r ∧ nI r < S.1 268 0 := by rw [← e1]; exact h1
    have hc48 := cnt_le (pg (S.1 268) r) 48
    by_cases h2 : inr (xs (i + 2)) 0 (nI (cnt (pg (S.1 268) r) 48) - 1)
    · skip
      obtain ⟨w, hw, e2⟩ := rk_nI (m := cnt (pg (S.1 268) r) 48) (by omega) rfl ((pl_iff (by omega) rfl).mp h2)
      obtain ⟨s0, hs, h0, es⟩ := cnt_nth (pg (S.1 268) r) 48 hw
      subst es
      have h2' := h2
      rw [e2] at h2'
      refine wa_aload_n dL_law_776 rfl ?_
      refine l_rd (q := 1) (x := nI r) e1 dL_law_777 dL_law_778 dL_law_780 dL_law_781 dL_law_782 (by decide) (by omega) hL ?_
      refine l_rd (q := 2) (x := nI (cnt (pg (S.1 268) r) s0)) e2 dL_law_783 dL_law_784 dL_law_786 dL_law_787 dL_law_788 (by decide) (by omega) hL ?_
      refine wa_aload_n dL_law_789 rfl ?_
      refine wa_callW (As := [.ref 0, .int (nI r), .int (nI (cnt (pg (S.1 268) r) s0)), .ref 277]) dL_law_790 lk_L_199 (wl_entry_0 (P := fun v' n' S' => n' = n ∧ v' = (nI (1000 * s0) + pg (S.1 268) r s0) ∧ S' = S) hn (vr_entry_0 hn hh hg (by omega) hr hs h0) (fun r n' h' q => ⟨_, _, q.1, q.2.2, q.2.1, rfl, rfl⟩)) rfl (by exact Nat.le_of_ble_eq_true rfl) (fitL (by decide) (by decide) (by omega) (by omega)) (by exact Nat.le_of_ble_eq_true rfl) (fun ro n' h' q _ => ?_) (fun E n' h' q _ => by cases q.1)
      obtain ⟨q1, v, S', q2, -, q3, q4, q5⟩ := q
      cases q1
      rw [q2, q3, q4, q5]
      have hI0 := hI.soI ((nI (1000 * s0) + pg (S.1 268) r s0) : Int32).toInt64
      refine wa_istore dL_law_793 rfl ?_
      refine wa_aload_n dL_law_795 rfl ?_
      refine l_rd (q := 1) (x := nI r) e1 dL_law_796 dL_law_797 dL_law_799 dL_law_800 dL_law_801 (by decide) (by omega) hL ?_
      refine l_rd (q := 2) (x := nI (cnt (pg (S.1 268) r) s0)) e2 dL_law_802 dL_law_803 dL_law_805 dL_law_806 dL_law_807 (by decide) (by omega) hL ?_
      refine c_VI dL_law_808 (AM.v (mm_entry_0 hn hI0.m hI0.gg.1 hr6 hs h0 (rk_of hI0.m h1') h2') rfl) lk_L_201 rfl (isO_MO _ _ _) rfl (ltS (by omega)) ?_ (hR := (fitL (by decide) (by decide) (by omega) (by omega)))
      exact l_tail0 dL_law_811 dL_law_813 dL_law_814 dL_law_817 dL_law_819 dL_law_824 dL_law_826 dL_law_829 dL_law_830 dL_law_831 dL_law_832 dL_law_834 dL_law_835 dL_law_836 dL_law_841 (by decide) (by omega) (th_0 _ _) rfl (by omega) (by omega) (hQ _ _ _ _ _ _ _ _ _ (by omega) (by omega) (by omega) (by omega) ((hI0.thI 0).mono (by omega) (Nat.le_refl _) hcb))
    · skip
      refine wa_aload_n dL_law_776 rfl ?_
      refine l_rd (q := 1) (x := nI r) e1 dL_law_777 dL_law_778 dL_law_780 dL_law_781 dL_law_782 (by decide) (by omega) hL ?_
      refine l_rd (q := 2) (x := xs (i + 2)) rfl dL_law_783 dL_law_784 dL_law_786 dL_law_787 dL_law_788 (by decide) (by omega) hL ?_
      refine wa_aload_n dL_law_789 rfl ?_
      refine wa_callW (As := [.ref 0, .int (nI r), .int (xs (i + 2)), .ref 277]) dL_law_790 lk_L_199 (wl_entry_2 hn (vr_entry_2 hn hh hg (by omega) hr _ h2)) rfl (by exact Nat.le_of_ble_eq_true rfl) (fitL (by decide) (by decide) (by omega) (by omega)) (by exact Nat.le_of_ble_eq_true rfl) (fun ro n' h' q _ => ?_) (fun E n' h' q _ => by cases q.1)
      obtain ⟨q1, q2, q3⟩ := q
      rw [q2, q3]
      cases q1
      refine wa_istore dL_law_793 rfl ?_
      refine wa_aload_n dL_law_795 rfl ?_
      refine l_rd (q := 1) (x := nI r) e1 dL_law_796 dL_law_797 dL_law_799 dL_law_800 dL_law_801 (by decide) (by omega) hL ?_
      refine l_rd (q := 2) (x := xs (i + 2)) rfl dL_law_802 dL_law_803 dL_law_805 dL_law_806 dL_law_807 (by decide) (by omega) hL ?_
      refine c_VI dL_law_808 (mm_entry_2 hn hm hg.1 hr6 _ (rk_of hm h1') h2) lk_L_201 rfl (isO_MO _ _ _) rfl (ltS (by omega)) ?_ (hR := (fitL (by decide) (by decide) (by omega) (by omega)))
      exact l_tailE (j := 2) dL_law_811 dL_law_813 dL_law_814 dL_law_817 dL_law_819 dL_law_824 (o2 := 15) dL_law_826 dL_law_841 (by decide) (by omega) (by decide) (by decide) (th_0 _ _) (by omega) (by omega) (hQ _ _ _ _ _ _ _ _ _ (by omega) (by omega) (by omega) (by omega) ((hI.thI 2).mono (by omega) (Nat.le_refl _) hcb))
  · skip
    refine wa_aload_n dL_law_776 rfl ?_
    refine l_rd (q := 1) (x := xs (i + 1)) rfl dL_law_777 dL_law_778 dL_law_780 dL_law_781 dL_law_782 (by decide) (by omega) hL ?_
    refine l_rd (q := 2) (x := xs (i + 2)) rfl dL_law_783 dL_law_784 dL_law_786 dL_law_787 dL_law_788 (by decide) (by omega) hL ?_
    refine wa_aload_n dL_law_789 rfl ?_
    refine wa_callW (As := [.ref 0, .int (xs (i + 1)), .int (xs (i + 2)), .ref 277]) dL_law_790 lk_L_199 (wl_entry_1 hn (vr_entry_1 hn hh hg _ _ h1)) rfl (by exact Nat.le_of_ble_eq_true rfl) (fitL (by decide) (by decide) (by omega) (by omega)) (by exact Nat.le_of_ble_eq_true rfl) (fun ro n' h' q _ => ?_) (fun E n' h' q _ => by cases q.1)
    obtain ⟨q1, q2, q3⟩ := q
    rw [q2, q3]
    cases q1
    refine wa_istore dL_law_793 rfl ?_
    refine wa_aload_n dL_law_795 rfl ?_
    refine l_rd (q := 1) (x := xs (i + 1)) rfl dL_law_796 dL_law_797 dL_law_799 dL_law_800 dL_law_801 (by decide) (by omega) hL ?_
    refine l_rd (q := 2) (x := xs (i + 2)) rfl dL_law_802 dL_law_803 dL_law_805 dL_law_806 dL_law_807 (by decide) (by omega) hL ?_
    refine c_VI dL_law_808 (mm_entry_1 hn hm hg.1 _ _ (rk_no hm h1)) lk_L_201 rfl (isO_MO _ _ _) rfl (ltS (by omega)) ?_ (hR := (fitL (by decide) (by decide) (by omega) (by omega)))
    exact l_tailE (j := 1) dL_law_811 dL_law_813 dL_law_814 dL_law_817 dL_law_819 dL_law_824 (o2 := 15) dL_law_826 dL_law_841 (by decide) (by omega) (by decide) (by decide) (th_0 _ _) (by omega) (by omega) (hQ _ _ _ _ _ _ _ _ _ (by omega) (by omega) (by omega) (by omega) ((hI.thI 1).mono (by omega) (Nat.le_refl _) hcb))
theorem lc_planned {L : Nat} {xs : Nat → Int32} {Q : ab_Q} {k z n i c : Nat} {a b c1 d : Option Value} {S : SS} {T : Int} (hi : i + 6 ≤ L) (hL : L ≤ 3072) (hI : INV T n c S) (hT0 : 0 ≤ T) (hT : T ≤ 110000) (hk : k + 80 ≤ 601024) (hz : z + 13300 ≤ 7293034) (hnb : n + 80 ≤ 900000) (hQ : LK L xs Q T n k z i) : LX L xs Q k z 956 (lsL i a b c1 d) [] n (Hp S) := by
  have hn := hI.n
  have hh := hI.hh
  have hg := hI.gg
  have hm := hI.m
  have hcb := hI.1.2.1
  have e9 : ab_CB = 1000000 := rfl
  have h20 := hg.pn20
  have hpl := pl_iff (x := xs (i + 1)) (m := pn (S.1 268)) (by omega) hg.e3
  by_cases h1 : 0 ≤ xs (i + 1) ∧ xs (i + 1) < S.1 268 3
  · skip
    obtain ⟨r, hr, hr6, e1⟩ := hI.pnI h1
    have h1' : 0 ≤ nI r ∧ nI r < S.1 268 3 := by rw [← e1]; exact h1
    have h1m : inr (nI r) 0 (S.1 268 3 - 1) := by rw [← e1]; exact hpl.mpr h1
    by_cases h2 : inr (xs (i + 2)) 0 2
    · skip
      obtain ⟨w, hw, e2⟩ := in_nI (m := 2) (by decide) h2
      rcases (show w = 0 ∨ w = 1 ∨ w = 2 by omega) with rfl | rfl | rfl
      · skip
        refine wa_aload_n dL_law_956 rfl ?_
        refine l_rd (q := 1) (x := nI r) e1 dL_law_957 dL_law_958 dL_law_960 dL_law_961 dL_law_962 (by decide) (by omega) hL ?_
        refine l_rd (q := 2) (x := 0) e2 dL_law_963 dL_law_964 dL_law_966 dL_law_967 dL_law_968 (by decide) (by omega) hL ?_
        refine wa_aload_n dL_law_969 rfl ?_
        refine wa_callW (As := [.ref 0, .int (nI r), .int (0), .ref 277]) dL_law_970 lk_L_208 (wl_planned_0 (P := fun v' n' S' => n' = n ∧ v' = (S.1 268 (11 + 3 * r + 0)) ∧ S' = S) hn (vr_planned_0_0 hn hh hg (by omega) hr h1') (fun r n' h' q => ⟨_, _, q.1, q.2.2, q.2.1, rfl, rfl⟩)) rfl (by exact Nat.le_of_ble_eq_true rfl) (fitL (by decide) (by decide) (by omega) (by omega)) (by exact Nat.le_of_ble_eq_true rfl) (fun ro n' h' q _ => ?_) (fun E n' h' q _ => by cases q.1)
        obtain ⟨q1, v, S', q2, -, q3, q4, q5⟩ := q
        cases q1
        rw [q2, q3, q4, q5]
        have hI0 := hI.soI ((S.1 268 (11 + 3 * r + 0)) : Int32).toInt64
        refine wa_istore dL_law_973 rfl ?_
        refine wa_aload_n dL_law_975 rfl ?_
        refine l_rd (q := 1) (x := nI r) e1 dL_law_976 dL_law_977 dL_law_979 dL_law_980 dL_law_981 (by decide) (by omega) hL ?_
        refine l_rd (q := 2) (x := 0) e2 dL_law_982 dL_law_983 dL_law_985 dL_law_986 dL_law_987 (by decide) (by omega) hL ?_
        refine c_VI dL_law_988 (AM.v (mm_planned_0 (w := 0) hn hI0.m hI0.gg.1 hr6 (by decide) h1m (by decide)) rfl) lk_L_210 rfl (isO_MO _ _ _) rfl (ltS (by omega)) ?_ (hR := (fitL (by decide) (by decide) (by omega) (by omega)))
        exact l_tail0 dL_law_991 dL_law_993 dL_law_994 dL_law_997 dL_law_999 dL_law_1004 dL_law_1006 dL_law_1009 dL_law_1010 dL_law_1011 dL_law_1012 dL_law_1014 dL_law_1015 dL_law_1016 dL_law_1021 (by decide) (by omega) (th_0 _ _) rfl (by omega) (by omega) (hQ _ _ _ _ _ _ _ _ _ (by omega) (by omega) (by omega) (by omega) ((hI0.thI 0).mono (by omega) (Nat.le_refl _) hcb))
      · skip
        refine wa_aload_n dL_law_956 rfl ?_
        refine l_rd (q := 1) (x := nI r) e1 dL_law_957 dL_law_958 dL_law_960 dL_law_961 dL_law_962 (by decide) (by omega) hL ?_
        refine l_rd (q := 2) (x := 1) e2 dL_law_963 dL_law_964 dL_law_966 dL_law_967 dL_law_968 (by decide) (by omega) hL ?_
        refine wa_aload_n dL_law_969 rfl ?_
        refine wa_callW (As := [.ref 0, .int (nI r), .int (1), .ref 277]) dL_law_970 lk_L_208 (wl_planned_0 (P := fun v' n' S' => n' = n ∧ v' = (S.1 268 (11 + 3 * r + 1)) ∧ S' = S) hn (vr_planned_0_1 hn hh hg (by omega) hr h1') (fun r n' h' q => ⟨_, _, q.1, q.2.2, q.2.1, rfl, rfl⟩)) rfl (by exact Nat.le_of_ble_eq_true rfl) (fitL (by decide) (by decide) (by omega) (by omega)) (by exact Nat.le_of_ble_eq_true rfl) (fun ro n' h' q _ => ?_) (fun E n' h' q _ => by cases q.1)
        obtain ⟨q1, v, S', q2, -, q3, q4, q5⟩ := q
        cases q1
        rw [q2, q3, q4, q5]
        have hI0 := hI.soI ((S.1 268 (11 + 3 * r + 1)) : Int32).toInt64
        refine wa_istore dL_law_973 rfl ?_
        refine wa_aload_n dL_law_975 rfl ?_
        refine l_rd (q := 1) (x := nI r) e1 dL_law_976 dL_law_977 dL_law_979 dL_law_980 dL_law_981 (by decide) (by omega) hL ?_
        refine l_rd (q := 2) (x := 1) e2 dL_law_982 dL_law_983 dL_law_985 dL_law_986 dL_law_987 (by decide) (by omega) hL ?_
        refine c_VI dL_law_988 (AM.v (mm_planned_0 (w := 1) hn hI0.m hI0.gg.1 hr6 (by decide) h1m (by decide)) rfl) lk_L_210 rfl (isO_MO _ _ _) rfl (ltS (by omega)) ?_ (hR := (fitL (by decide) (by decide) (by omega) (by omega)))
        exact l_tail0 dL_law_991 dL_law_993 dL_law_994 dL_law_997 dL_law_999 dL_law_1004 dL_law_1006 dL_law_1009 dL_law_1010 dL_law_1011 dL_law_1012 dL_law_1014 dL_law_1015 dL_law_1016 dL_law_1021 (by decide) (by omega) (th_0 _ _) rfl (by omega) (by omega) (hQ _ _ _ _ _ _ _ _ _ (by omega) (by omega) (by omega) (by omega) ((hI0.thI 0).mono (by omega) (Nat.le_refl _) hcb))
      · skip
        refine wa_aload_n dL_law_956 rfl ?_
        refine l_rd (q := 1) (x := nI r) e1 dL_law_957 dL_law_958 dL_law_960 dL_law_961 dL_law_962 (by decide) (by omega) hL ?_
        refine l_rd (q := 2) (x := 2) e2 dL_law_963 dL_law_964 dL_law_966 dL_law_967 dL_law_968 (by decide) (by omega) hL ?_
        refine wa_aload_n dL_law_969 rfl ?_
        refine wa_callW (As := [.ref 0, .int (nI r), .int (2), .ref 277]) dL_law_970 lk_L_208 (wl_planned_0 (P := fun v' n' S' => n' = n ∧ v' = (S.1 268 (11 + 3 * r + 2)) ∧ S' = S) hn (vr_planned_0_2 hn hh hg (by omega) hr h1') (fun r n' h' q => ⟨_, _, q.1, q.2.2, q.2.1, rfl, rfl⟩)) rfl (by exact Nat.le_of_ble_eq_true rfl) (fitL (by decide) (by decide) (by omega) (by omega)) (by exact Nat.le_of_ble_eq_true rfl) (fun ro n' h' q _ => ?_) (fun E n' h' q _ => by cases q.1)
        obtain ⟨q1, v, S', q2, -, q3, q4, q5⟩ := q
        cases q1
        rw [q2, q3, q4, q5]
        have hI0 := hI.soI ((S.1 268 (11 + 3 * r + 2)) : Int32).toInt64
        refine wa_istore dL_law_973 rfl ?_
        refine wa_aload_n dL_law_975 rfl ?_
        refine l_rd (q := 1) (x := nI r) e1 dL_law_976 dL_law_977 dL_law_979 dL_law_980 dL_law_981 (by decide) (by omega) hL ?_
        refine l_rd (q := 2) (x := 2) e2 dL_law_982 dL_law_983 dL_law_985 dL_law_986 dL_law_987 (by decide) (by omega) hL ?_
        refine c_VI dL_law_988 (AM.v (mm_planned_0 (w := 2) hn hI0.m hI0.gg.1 hr6 (by decide) h1m (by decide)) rfl) lk_L_210 rfl (isO_MO _ _ _) rfl (ltS (by omega)) ?_ (hR := (fitL (by decide) (by decide) (by omega) (by omega)))
        exact l_tail0 dL_law_991 dL_law_993 dL_law_994 dL_law_997 dL_law_999 dL_law_1004 dL_law_1006 dL_law_1009 dL_law_1010 dL_law_1011 dL_law_1012 dL_law_1014 dL_law_1015 dL_law_1016 dL_law_1021 (by decide) (by omega) (th_0 _ _) rfl (by omega) (by omega) (hQ _ _ _ _ _ _ _ _ _ (by omega) (by omega) (by omega) (by omega) ((hI0.thI 0).mono (by omega) (Nat.le_refl _) hcb))
    · skip
      refine wa_aload_n dL_law_956 rfl ?_
      refine l_rd (q := 1) (x := xs (i + 1)) rfl dL_law_957 dL_law_958 dL_law_960 dL_law_961 dL_law_962 (by decide) (by omega) hL ?_
      refine l_rd (q := 2) (x := xs (i + 2)) rfl dL_law_963 dL_law_964 dL_law_966 dL_law_967 dL_law_968 (by decide) (by omega) hL ?_
      refine wa_aload_n dL_law_969 rfl ?_
      refine wa_callW (As := [.ref 0, .int (xs (i + 1)), .int (xs (i + 2)), .ref 277]) dL_law_970 lk_L_208 (wl_planned_2 hn (vr_planned_2 hn hh hg _ _ h1 h2)) rfl (by exact Nat.le_of_ble_eq_true rfl) (fitL (by decide) (by decide) (by omega) (by omega)) (by exact Nat.le_of_ble_eq_true rfl) (fun ro n' h' q _ => ?_) (fun E n' h' q _ => by cases q.1)
      obtain ⟨q1, q2, q3⟩ := q
      rw [q2, q3]
      cases q1
      refine wa_istore dL_law_973 rfl ?_
      refine wa_aload_n dL_law_975 rfl ?_
      refine l_rd (q := 1) (x := xs (i + 1)) rfl dL_law_976 dL_law_977 dL_law_979 dL_law_980 dL_law_981 (by decide) (by omega) hL ?_
      refine l_rd (q := 2) (x := xs (i + 2)) rfl dL_law_982 dL_law_983 dL_law_985 dL_law_986 dL_law_987 (by decide) (by omega) hL ?_
      refine c_VI dL_law_988 (mm_planned_2 hn hm hg.1 _ _ (hpl.mpr h1) h2) lk_L_210 rfl (isO_MO _ _ _) rfl (ltS (by omega)) ?_ (hR := (fitL (by decide) (by decide) (by omega) (by omega)))
      exact l_tailE (j := 2) dL_law_991 dL_law_993 dL_law_994 dL_law_997 dL_law_999 dL_law_1004 (o2 := 15) dL_law_1006 dL_law_1021 (by decide) (by omega) (by decide) (by decide) (th_0 _ _) (by omega) (by omega) (hQ _ _ _ _ _ _ _ _ _ (by omega) (by omega) (by omega) (by omega) ((hI.thI 2).mono (by omega) (Nat.le_refl _) hcb))
  · skip
    refine wa_aload_n dL_law_956 rfl ?_
    refine l_rd (q := 1) (x := xs (i + 1)) rfl dL_law_957 dL_law_958 dL_law_960 dL_law_961 dL_law_962 (by decide) (by omega) hL ?_
    refine l_rd (q := 2) (x := xs (i + 2)) rfl dL_law_963 dL_law_964 dL_law_966 dL_law_967 dL_law_968 (by decide) (by omega) hL ?_
    refine wa_aload_n dL_law_969 rfl ?_
    refine wa_callW (As := [.ref 0, .int (xs (i + 1)), .int (xs (i + 2)), .ref 277]) dL_law_970 lk_L_208 (wl_planned_1 hn (vr_planned_1 hn hh hg _ _ h1)) rfl (by exact Nat.le_of_ble_eq_true rfl) (fitL (by decide) (by decide) (by omega) (by omega)) (by exact Nat.le_of_ble_eq_true rfl) (fun ro n' h' q _ => ?_) (fun E n' h' q _ => by cases q.1)
    obtain ⟨q1, q2, q3⟩ := q
    rw [q2, q3]
    cases q1
    refine wa_istore dL_law_973 rfl ?_
    refine wa_aload_n dL_law_975 rfl ?_
    refine l_rd (q := 1) (x := xs (i + 1)) rfl dL_law_976 dL_law_977 dL_law_979 dL_law_980 dL_law_981 (by decide) (by omega) hL ?_
    refine l_rd (q := 2) (x := xs (i + 2)) rfl dL_law_982 dL_law_983 dL_law_985 dL_law_986 dL_law_987 (by decide) (by omega) hL ?_
    refine c_VI dL_law_988 (mm_planned_1 hn hm hg.1 _ _ (fun z => h1 (hpl.mp z))) lk_L_210 rfl (isO_MO _ _ _) rfl (ltS (by omega)) ?_ (hR := (fitL (by decide) (by decide) (by omega) (by omega)))
    exact l_tailE (j := 1) dL_law_991 dL_law_993 dL_law_994 dL_law_997 dL_law_999 dL_law_1004 (o2 := 15) dL_law_1006 dL_law_1021 (by decide) (by omega) (by decide) (by decide) (th_0 _ _) (by omega) (by omega) (hQ _ _ _ _ _ _ _ _ _ (by omega) (by omega) (by omega) (by omega) ((hI.thI 1).mono (by omega) (Nat.le_refl _) hcb))
theorem lc_sum {L : Nat} {xs : Nat → Int32} {Q : ab_Q} {k z n i c : Nat} {a b c1 d : Option Value} {S : SS} {T : Int} (hi : i + 6 ≤ L) (hL : L ≤ 3072) (hI : INV T n c S) (hT0 : 0 ≤ T) (hT : T ≤ 110000) (hk : k + 80 ≤ 601024) (hz : z + 13300 ≤ 7293034) (hnb : n + 80 ≤ 900000) (hQ : LK L xs Q T n k z i) : LX L xs Q k z 1695 (lsL i a b c1 d) [] n (Hp S) := by
  have hn := hI.n
  have hh := hI.hh
  have hg := hI.gg
  have hm := hI.m
  have hcb := hI.1.2.1
  have e9 : ab_CB = 1000000 := rfl
  by_cases h1 : inr (xs (i + 1)) 0 5
  · skip
    obtain ⟨w, hw, e2⟩ := in_nI (m := 5) (by decide) h1
    have hw2 : w < 6 := by omega
    have h1' : inr (nI w) 0 5 := by rw [← e2]; exact h1
    refine wa_aload_n dL_law_1695 rfl ?_
    refine l_rd (q := 1) (x := nI w) e2 dL_law_1696 dL_law_1697 dL_law_1699 dL_law_1700 dL_law_1701 (by decide) (by omega) hL ?_
    refine wa_aload_n dL_law_1702 rfl ?_
    refine wa_callW (As := [.ref 0, .int (nI w), .ref 277]) dL_law_1703 lk_L_254 (wl_sum_0 (P := fun v' n' S' => n' = n ∧ v' = (sumN (S.1 268) (12 + w) (rn (S.1 268))) ∧ S' = S) hn (vr_sum_0 hn hh hg hw2 h1') (fun r n' h' q => ⟨_, _, q.1, q.2.2, q.2.1, rfl, rfl⟩)) rfl (by exact Nat.le_of_ble_eq_true rfl) (fitL (by decide) (by decide) (by omega) (by omega)) (by exact Nat.le_of_ble_eq_true rfl) (fun ro n' h' q _ => ?_) (fun E n' h' q _ => by cases q.1)
    obtain ⟨q1, v, S', q2, -, q3, q4, q5⟩ := q
    cases q1
    rw [q2, q3, q4, q5]
    have hI0 := hI.soI ((sumN (S.1 268) (12 + w) (rn (S.1 268))) : Int32).toInt64
    refine wa_istore dL_law_1706 rfl ?_
    refine wa_aload_n dL_law_1708 rfl ?_
    refine l_rd (q := 1) (x := nI w) e2 dL_law_1709 dL_law_1710 dL_law_1712 dL_law_1713 dL_law_1714 (by decide) (by omega) hL ?_
    refine c_VI dL_law_1715 (AM.v (mm_sum_0 hn hI0.m hI0.gg.1 hw2 h1') rfl) lk_L_256 rfl (isO_MO _ _ _) rfl (ltS (by omega)) ?_ (hR := (fitL (by decide) (by decide) (by omega) (by omega)))
    exact l_tail0 dL_law_1718 dL_law_1720 dL_law_1721 dL_law_1724 dL_law_1726 dL_law_1731 dL_law_1733 dL_law_1736 dL_law_1737 dL_law_1738 dL_law_1739 dL_law_1741 dL_law_1742 dL_law_1743 dL_law_1748 (by decide) (by omega) (th_0 _ _) rfl (by omega) (by omega) (hQ _ _ _ _ _ _ _ _ _ (by omega) (by omega) (by omega) (by omega) ((hI0.thI 0).mono (by omega) (Nat.le_refl _) hcb))
  · skip
    refine wa_aload_n dL_law_1695 rfl ?_
    refine l_rd (q := 1) (x := xs (i + 1)) rfl dL_law_1696 dL_law_1697 dL_law_1699 dL_law_1700 dL_law_1701 (by decide) (by omega) hL ?_
    refine wa_aload_n dL_law_1702 rfl ?_
    refine wa_callW (As := [.ref 0, .int (xs (i + 1)), .ref 277]) dL_law_1703 lk_L_254 (wl_sum_1 hn (vr_sum_1 hn hh hg _ h1)) rfl (by exact Nat.le_of_ble_eq_true rfl) (fitL (by decide) (by decide) (by omega) (by omega)) (by exact Nat.le_of_ble_eq_true rfl) (fun ro n' h' q _ => ?_) (fun E n' h' q _ => by cases q.1)
    obtain ⟨q1, q2, q3⟩ := q
    rw [q2, q3]
    cases q1
    refine wa_istore dL_law_1706 rfl ?_
    refine wa_aload_n dL_law_1708 rfl ?_
    refine l_rd (q := 1) (x := xs (i + 1)) rfl dL_law_1709 dL_law_1710 dL_law_1712 dL_law_1713 dL_law_1714 (by decide) (by omega) hL ?_
    refine c_VI dL_law_1715 (mm_sum_1 hn hm hg.1 _ h1) lk_L_256 rfl (isO_MO _ _ _) rfl (ltS (by omega)) ?_ (hR := (fitL (by decide) (by decide) (by omega) (by omega)))
    exact l_tailE (j := 1) dL_law_1718 dL_law_1720 dL_law_1721 dL_law_1724 dL_law_1726 dL_law_1731 (o2 := 15) dL_law_1733 dL_law_1748 (by decide) (by omega) (by decide) (by decide) (th_0 _ _) (by omega) (by omega) (hQ _ _ _ _ _ _ _ _ _ (by omega) (by omega) (by omega) (by omega) ((hI.thI 1).mono (by omega) (Nat.le_refl _) hcb))
theorem lc_exerciseIn {L : Nat} {xs : Nat → Int32} {Q : ab_Q} {k z n i c : Nat} {a b c1 d : Option Value} {S : SS} {T : Int} (hi : i + 6 ≤ L) (hL : L ≤ 3072) (hI : INV T n c S) (hT0 : 0 ≤ T) (hT : T ≤ 110000) (hk : k + 80 ≤ 601024) (hz : z + 13300 ≤ 7293034) (hnb : n + 80 ≤ 900000) (hQ : LK L xs Q T n k z i) : LX L xs Q k z 1272 (lsL i a b c1 d) [] n (Hp S) := by
  have hn := hI.n
  have hh := hI.hh
  have hg := hI.gg
  have hm := hI.m
  have hcb := hI.1.2.1
  have e9 : ab_CB = 1000000 := rfl
  by_cases h1 : 0 ≤ xs (i + 1) ∧ xs (i + 1) < S.1 268 0
  · skip
    obtain ⟨r, hr, hr6, e1⟩ := hI.rnI h1
    have h1' : 0 ≤ nI r ∧ nI r < S.1 268 0 := by rw [← e1]; exact h1
    obtain ⟨N, hN1, eN, hx, hy⟩ := ex_pure hg.t0 (by have := hg.tT; omega) hg.2.1.2.2.2.2.2.2.2 hr6
    refine wa_aload_n dL_law_1272 rfl ?_
    refine l_rd (q := 1) (x := nI r) e1 dL_law_1273 dL_law_1274 dL_law_1276 dL_law_1277 dL_law_1278 (by decide) (by omega) hL ?_
    refine wa_aload_n dL_law_1279 rfl ?_
    refine wa_callW (As := [.ref 0, .int (nI r), .ref 277]) dL_law_1280 lk_L_223 (wl_exerciseIn_0 (P := fun v' n' S' => n' = n ∧ v' = (i_fmod (S.1 268 10 + nI r - S.1 268 1 - 1) 336 + 1) ∧ S' = S) hn (vr_exerciseIn_0 hn hh hg (by omega) hr) (fun r n' h' q => ⟨_, _, q.1, q.2.2, q.2.1, rfl, rfl⟩)) rfl (by exact Nat.le_of_ble_eq_true rfl) (fitL (by decide) (by decide) (by omega) (by omega)) (by exact Nat.le_of_ble_eq_true rfl) (fun ro n' h' q _ => ?_) (fun E n' h' q _ => by cases q.1)
    obtain ⟨q1, v, S', q2, -, q3, q4, q5⟩ := q
    cases q1
    rw [q2, q3, q4, q5]
    have hI0 := hI.soI ((i_fmod (S.1 268 10 + nI r - S.1 268 1 - 1) 336 + 1) : Int32).toInt64
    refine wa_istore dL_law_1283 rfl ?_
    refine wa_aload_n dL_law_1285 rfl ?_
    refine l_rd (q := 1) (x := nI r) e1 dL_law_1286 dL_law_1287 dL_law_1289 dL_law_1290 dL_law_1291 (by decide) (by omega) hL ?_
    refine c_VI dL_law_1292 (AM.v (mm_exerciseIn_0 (N := N) hn hI0.m hI0.gg.1 hr6 hN1 hx hy (rk_of hI0.m h1')) eN.symm) lk_L_225 rfl (isO_MO _ _ _) rfl (ltS (by omega)) ?_ (hR := (fitL (by decide) (by decide) (by omega) (by omega)))
    exact l_tail0 dL_law_1295 dL_law_1297 dL_law_1298 dL_law_1301 dL_law_1303 dL_law_1308 dL_law_1310 dL_law_1313 dL_law_1314 dL_law_1315 dL_law_1316 dL_law_1318 dL_law_1319 dL_law_1320 dL_law_1325 (by decide) (by omega) (th_0 _ _) rfl (by omega) (by omega) (hQ _ _ _ _ _ _ _ _ _ (by omega) (by omega) (by omega) (by omega) ((hI0.thI 0).mono (by omega) (Nat.le_refl _) hcb))
  · skip
    refine wa_aload_n dL_law_1272 rfl ?_
    refine l_rd (q := 1) (x := xs (i + 1)) rfl dL_law_1273 dL_law_1274 dL_law_1276 dL_law_1277 dL_law_1278 (by decide) (by omega) hL ?_
    refine wa_aload_n dL_law_1279 rfl ?_
    refine wa_callW (As := [.ref 0, .int (xs (i + 1)), .ref 277]) dL_law_1280 lk_L_223 (wl_exerciseIn_1 hn (vr_exerciseIn_1 hn hh hg _ h1)) rfl (by exact Nat.le_of_ble_eq_true rfl) (fitL (by decide) (by decide) (by omega) (by omega)) (by exact Nat.le_of_ble_eq_true rfl) (fun ro n' h' q _ => ?_) (fun E n' h' q _ => by cases q.1)
    obtain ⟨q1, q2, q3⟩ := q
    rw [q2, q3]
    cases q1
    refine wa_istore dL_law_1283 rfl ?_
    refine wa_aload_n dL_law_1285 rfl ?_
    refine l_rd (q := 1) (x := xs (i + 1)) rfl dL_law_1286 dL_law_1287 dL_law_1289 dL_law_1290 dL_law_1291 (by decide) (by omega) hL ?_
    refine c_VI dL_law_1292 (mm_exerciseIn_1 hn hm hg.1 _ (rk_no hm h1)) lk_L_225 rfl (isO_MO _ _ _) rfl (ltS (by omega)) ?_ (hR := (fitL (by decide) (by decide) (by omega) (by omega)))
    exact l_tailE (j := 1) dL_law_1295 dL_law_1297 dL_law_1298 dL_law_1301 dL_law_1303 dL_law_1308 (o2 := 15) dL_law_1310 dL_law_1325 (by decide) (by omega) (by decide) (by decide) (th_0 _ _) (by omega) (by omega) (hQ _ _ _ _ _ _ _ _ _ (by omega) (by omega) (by omega) (by omega) ((hI.thI 1).mono (by omega) (Nat.le_refl _) hcb))
