/-! The law's cases: what will be. Written by program (wip/whole/gen/m890.py). -/
theorem lc_tempIn {L : Nat} {xs : Nat → Int32} {Q : ab_Q} {k z n i c : Nat} {a b c1 d : Option Value} {S : SS} {T : Int} (hi : i + 6 ≤ L) (hL : L ≤ 3072) (hI : INV T n c S) (hT0 : 0 ≤ T) (hT : T ≤ 110000) (hk : k + 80 ≤ 601024) (hz : z + 13300 ≤ 7293034) (hnb : n + 80 ≤ 900000) (hQ : LK L xs Q T n k z i) : LX L xs Q k z 1024 (lsL i a b c1 d) [] n (Hp S) := by
  have hn := hI.n
  have hh := hI.hh
  have hg := hI.gg
  have hm := hI.m
  have hcb := hI.1.2.1
  have e9 : ab_CB = 1000000 := rfl
  by_cases h1 : 0 ≤ xs (i + 1) ∧ xs (i + 1) < S.1 268 0
  · skip
    obtain ⟨r, hr, hr6, e1⟩ := hI.rnI h1
    have h1' : 0 ≤ nI r ∧ nI r < S.1 268 0 := by rw [← e1]; exact h1
    by_cases h2 : inr (xs (i + 2)) 0 500
    · skip
      obtain ⟨N, hN, e2⟩ := in_nI (m := 500) (by decide) h2
      have h2' : inr (nI N) 0 500 := by rw [← e2]; exact h2
      refine wa_aload_n dL_law_1024 rfl ?_
      refine l_rd (q := 1) (x := nI r) e1 dL_law_1025 dL_law_1026 dL_law_1028 dL_law_1029 dL_law_1030 (by decide) (by omega) hL ?_
      refine l_rd (q := 2) (x := nI N) e2 dL_law_1031 dL_law_1032 dL_law_1034 dL_law_1035 dL_law_1036 (by decide) (by omega) hL ?_
      refine wa_aload_n dL_law_1037 rfl ?_
      refine wa_callW (As := [.ref 0, .int (nI r), .int (nI N), .ref 277]) dL_law_1038 lk_L_211 (wl_tempIn_0 (P := fun v' n' S' => n' = n ∧ v' = (of (ticksN (S.1 268) N) r 0) ∧ FRc 57 S S') hn (vr_tempIn_0 hn hh hg hr hN (by omega)) (fun r n' h' q => by obtain ⟨p1, v, S', p2, p3, p4, p5⟩ := q; exact ⟨v, S', p2, p3, p1, p5, p4⟩)) rfl (by exact Nat.le_of_ble_eq_true rfl) (fitL (by decide) (by decide) (by omega) (by omega)) (by exact Nat.le_of_ble_eq_true rfl) (fun ro n' h' q _ => ?_) (fun E n' h' q _ => by cases q.1)
      obtain ⟨q1, v, S', q2, -, q3, q4, q5⟩ := q
      cases q1
      rw [q2, q3, q4]
      have hI1 := hI.trial q5
      have e8 : S'.1 268 = S.1 268 := (q5.2 268 (by decide)).1
      have hI0 := hI1.soI ((of (ticksN (S.1 268) N) r 0) : Int32).toInt64
      have e8' : (so S' ((of (ticksN (S.1 268) N) r 0) : Int32).toInt64).1 268 = S.1 268 := e8
      have hTg : T < 2147400000 := by omega
      have hM := (mm_tempIn_0 hn hI0.m hI0.gg.1 hTg hr6 hN (rk_of hI0.m (by rw [e8']; exact h1')) h2')
      rw [e8'] at hM
      refine wa_istore dL_law_1041 rfl ?_
      refine wa_aload_n dL_law_1043 rfl ?_
      refine l_rd (q := 1) (x := nI r) e1 dL_law_1044 dL_law_1045 dL_law_1047 dL_law_1048 dL_law_1049 (by decide) (by omega) hL ?_
      refine l_rd (q := 2) (x := nI N) e2 dL_law_1050 dL_law_1051 dL_law_1053 dL_law_1054 dL_law_1055 (by decide) (by omega) hL ?_
      refine c_VI dL_law_1056 hM lk_L_213 rfl (isO_MO _ _ _) rfl (ltS (by omega)) ?_ (hR := (fitL (by decide) (by decide) (by omega) (by omega)))
      exact l_tail0 dL_law_1059 dL_law_1061 dL_law_1062 dL_law_1065 dL_law_1067 dL_law_1072 dL_law_1074 dL_law_1077 dL_law_1078 dL_law_1079 dL_law_1080 dL_law_1082 dL_law_1083 dL_law_1084 dL_law_1089 (by decide) (by omega) ((congrFun (su_n _ _ (by decide)) 0).trans (th_0 _ _)) rfl (by omega) (by omega) (hQ _ _ _ _ _ _ _ _ _ (by omega) (by omega) (by omega) (by omega) (((hI0.thI 0).aside).mono (by omega) (Nat.le_refl _) hcb))
    · skip
      refine wa_aload_n dL_law_1024 rfl ?_
      refine l_rd (q := 1) (x := xs (i + 1)) rfl dL_law_1025 dL_law_1026 dL_law_1028 dL_law_1029 dL_law_1030 (by decide) (by omega) hL ?_
      refine l_rd (q := 2) (x := xs (i + 2)) rfl dL_law_1031 dL_law_1032 dL_law_1034 dL_law_1035 dL_law_1036 (by decide) (by omega) hL ?_
      refine wa_aload_n dL_law_1037 rfl ?_
      refine wa_callW (As := [.ref 0, .int (xs (i + 1)), .int (xs (i + 2)), .ref 277]) dL_law_1038 lk_L_211 (wl_tempIn_2 hn (vr_tempIn_2 hn hh hg _ _ h1 h2)) rfl (by exact Nat.le_of_ble_eq_true rfl) (fitL (by decide) (by decide) (by omega) (by omega)) (by exact Nat.le_of_ble_eq_true rfl) (fun ro n' h' q _ => ?_) (fun E n' h' q _ => by cases q.1)
      obtain ⟨q1, q2, q3⟩ := q
      rw [q2, q3]
      cases q1
      refine wa_istore dL_law_1041 rfl ?_
      refine wa_aload_n dL_law_1043 rfl ?_
      refine l_rd (q := 1) (x := xs (i + 1)) rfl dL_law_1044 dL_law_1045 dL_law_1047 dL_law_1048 dL_law_1049 (by decide) (by omega) hL ?_
      refine l_rd (q := 2) (x := xs (i + 2)) rfl dL_law_1050 dL_law_1051 dL_law_1053 dL_law_1054 dL_law_1055 (by decide) (by omega) hL ?_
      refine c_VI dL_law_1056 (mm_tempIn_2 hn hm hg.1 (by omega) _ _ (rk_of hm h1) h2) lk_L_213 rfl (isO_MO _ _ _) rfl (ltS (by omega)) ?_ (hR := (fitL (by decide) (by decide) (by omega) (by omega)))
      exact l_tailE (j := 2) dL_law_1059 dL_law_1061 dL_law_1062 dL_law_1065 dL_law_1067 dL_law_1072 (o2 := 15) dL_law_1074 dL_law_1089 (by decide) (by omega) (by decide) (by decide) (th_0 _ _) (by omega) (by omega) (hQ _ _ _ _ _ _ _ _ _ (by omega) (by omega) (by omega) (by omega) ((hI.thI 2).mono (by omega) (Nat.le_refl _) hcb))
  · skip
    refine wa_aload_n dL_law_1024 rfl ?_
    refine l_rd (q := 1) (x := xs (i + 1)) rfl dL_law_1025 dL_law_1026 dL_law_1028 dL_law_1029 dL_law_1030 (by decide) (by omega) hL ?_
    refine l_rd (q := 2) (x := xs (i + 2)) rfl dL_law_1031 dL_law_1032 dL_law_1034 dL_law_1035 dL_law_1036 (by decide) (by omega) hL ?_
    refine wa_aload_n dL_law_1037 rfl ?_
    refine wa_callW (As := [.ref 0, .int (xs (i + 1)), .int (xs (i + 2)), .ref 277]) dL_law_1038 lk_L_211 (wl_tempIn_1 hn (vr_tempIn_1 hn hh hg _ _ h1)) rfl (by exact Nat.le_of_ble_eq_true rfl) (fitL (by decide) (by decide) (by omega) (by omega)) (by exact Nat.le_of_ble_eq_true rfl) (fun ro n' h' q _ => ?_) (fun E n' h' q _ => by cases q.1)
    obtain ⟨q1, q2, q3⟩ := q
    rw [q2, q3]
    cases q1
    refine wa_istore dL_law_1041 rfl ?_
    refine wa_aload_n dL_law_1043 rfl ?_
    refine l_rd (q := 1) (x := xs (i + 1)) rfl dL_law_1044 dL_law_1045 dL_law_1047 dL_law_1048 dL_law_1049 (by decide) (by omega) hL ?_
    refine l_rd (q := 2) (x := xs (i + 2)) rfl dL_law_1050 dL_law_1051 dL_law_1053 dL_law_1054 dL_law_1055 (by decide) (by omega) hL ?_
    refine c_VI dL_law_1056 (mm_tempIn_1 hn hm hg.1 (by omega) _ _ (rk_no hm h1)) lk_L_213 rfl (isO_MO _ _ _) rfl (ltS (by omega)) ?_ (hR := (fitL (by decide) (by decide) (by omega) (by omega)))
    exact l_tailE (j := 1) dL_law_1059 dL_law_1061 dL_law_1062 dL_law_1065 dL_law_1067 dL_law_1072 (o2 := 15) dL_law_1074 dL_law_1089 (by decide) (by omega) (by decide) (by decide) (th_0 _ _) (by omega) (by omega) (hQ _ _ _ _ _ _ _ _ _ (by omega) (by omega) (by omega) (by omega) ((hI.thI 1).mono (by omega) (Nat.le_refl _) hcb))
theorem lc_valveIn {L : Nat} {xs : Nat → Int32} {Q : ab_Q} {k z n i c : Nat} {a b c1 d : Option Value} {S : SS} {T : Int} (hi : i + 6 ≤ L) (hL : L ≤ 3072) (hI : INV T n c S) (hT0 : 0 ≤ T) (hT : T ≤ 110000) (hk : k + 80 ≤ 601024) (hz : z + 13300 ≤ 7293034) (hnb : n + 80 ≤ 900000) (hQ : LK L xs Q T n k z i) : LX L xs Q k z 1092 (lsL i a b c1 d) [] n (Hp S) := by
  have hn := hI.n
  have hh := hI.hh
  have hg := hI.gg
  have hm := hI.m
  have hcb := hI.1.2.1
  have e9 : ab_CB = 1000000 := rfl
  by_cases h1 : 0 ≤ xs (i + 1) ∧ xs (i + 1) < S.1 268 0
  · skip
    obtain ⟨r, hr, hr6, e1⟩ := hI.rnI h1
    have h1' : 0 ≤ nI r ∧ nI r < S.1 268 0 := by rw [← e1]; exact h1
    by_cases h2 : inr (xs (i + 2)) 0 500
    · skip
      obtain ⟨N, hN, e2⟩ := in_nI (m := 500) (by decide) h2
      have h2' : inr (nI N) 0 500 := by rw [← e2]; exact h2
      refine wa_aload_n dL_law_1092 rfl ?_
      refine l_rd (q := 1) (x := nI r) e1 dL_law_1093 dL_law_1094 dL_law_1096 dL_law_1097 dL_law_1098 (by decide) (by omega) hL ?_
      refine l_rd (q := 2) (x := nI N) e2 dL_law_1099 dL_law_1100 dL_law_1102 dL_law_1103 dL_law_1104 (by decide) (by omega) hL ?_
      refine wa_aload_n dL_law_1105 rfl ?_
      refine wa_callW (As := [.ref 0, .int (nI r), .int (nI N), .ref 277]) dL_law_1106 lk_L_214 (wl_valveIn_0 (P := fun v' n' S' => n' = n ∧ v' = (of (ticksN (S.1 268) N) r 1) ∧ FRc 57 S S') hn (vr_valveIn_0 hn hh hg hr hN (by omega)) (fun r n' h' q => by obtain ⟨p1, v, S', p2, p3, p4, p5⟩ := q; exact ⟨v, S', p2, p3, p1, p5, p4⟩)) rfl (by exact Nat.le_of_ble_eq_true rfl) (fitL (by decide) (by decide) (by omega) (by omega)) (by exact Nat.le_of_ble_eq_true rfl) (fun ro n' h' q _ => ?_) (fun E n' h' q _ => by cases q.1)
      obtain ⟨q1, v, S', q2, -, q3, q4, q5⟩ := q
      cases q1
      rw [q2, q3, q4]
      have hI1 := hI.trial q5
      have e8 : S'.1 268 = S.1 268 := (q5.2 268 (by decide)).1
      have hI0 := hI1.soI ((of (ticksN (S.1 268) N) r 1) : Int32).toInt64
      have e8' : (so S' ((of (ticksN (S.1 268) N) r 1) : Int32).toInt64).1 268 = S.1 268 := e8
      have hTg : T < 2147400000 := by omega
      have hM := (mm_valveIn_0 hn hI0.m hI0.gg.1 hTg hr6 hN (rk_of hI0.m (by rw [e8']; exact h1')) h2')
      rw [e8'] at hM
      refine wa_istore dL_law_1109 rfl ?_
      refine wa_aload_n dL_law_1111 rfl ?_
      refine l_rd (q := 1) (x := nI r) e1 dL_law_1112 dL_law_1113 dL_law_1115 dL_law_1116 dL_law_1117 (by decide) (by omega) hL ?_
      refine l_rd (q := 2) (x := nI N) e2 dL_law_1118 dL_law_1119 dL_law_1121 dL_law_1122 dL_law_1123 (by decide) (by omega) hL ?_
      refine c_VI dL_law_1124 hM lk_L_216 rfl (isO_MO _ _ _) rfl (ltS (by omega)) ?_ (hR := (fitL (by decide) (by decide) (by omega) (by omega)))
      exact l_tail0 dL_law_1127 dL_law_1129 dL_law_1130 dL_law_1133 dL_law_1135 dL_law_1140 dL_law_1142 dL_law_1145 dL_law_1146 dL_law_1147 dL_law_1148 dL_law_1150 dL_law_1151 dL_law_1152 dL_law_1157 (by decide) (by omega) ((congrFun (su_n _ _ (by decide)) 0).trans (th_0 _ _)) rfl (by omega) (by omega) (hQ _ _ _ _ _ _ _ _ _ (by omega) (by omega) (by omega) (by omega) (((hI0.thI 0).aside).mono (by omega) (Nat.le_refl _) hcb))
    · skip
      refine wa_aload_n dL_law_1092 rfl ?_
      refine l_rd (q := 1) (x := xs (i + 1)) rfl dL_law_1093 dL_law_1094 dL_law_1096 dL_law_1097 dL_law_1098 (by decide) (by omega) hL ?_
      refine l_rd (q := 2) (x := xs (i + 2)) rfl dL_law_1099 dL_law_1100 dL_law_1102 dL_law_1103 dL_law_1104 (by decide) (by omega) hL ?_
      refine wa_aload_n dL_law_1105 rfl ?_
      refine wa_callW (As := [.ref 0, .int (xs (i + 1)), .int (xs (i + 2)), .ref 277]) dL_law_1106 lk_L_214 (wl_valveIn_2 hn (vr_valveIn_2 hn hh hg _ _ h1 h2)) rfl (by exact Nat.le_of_ble_eq_true rfl) (fitL (by decide) (by decide) (by omega) (by omega)) (by exact Nat.le_of_ble_eq_true rfl) (fun ro n' h' q _ => ?_) (fun E n' h' q _ => by cases q.1)
      obtain ⟨q1, q2, q3⟩ := q
      rw [q2, q3]
      cases q1
      refine wa_istore dL_law_1109 rfl ?_
      refine wa_aload_n dL_law_1111 rfl ?_
      refine l_rd (q := 1) (x := xs (i + 1)) rfl dL_law_1112 dL_law_1113 dL_law_1115 dL_law_1116 dL_law_1117 (by decide) (by omega) hL ?_
      refine l_rd (q := 2) (x := xs (i + 2)) rfl dL_law_1118 dL_law_1119 dL_law_1121 dL_law_1122 dL_law_1123 (by decide) (by omega) hL ?_
      refine c_VI dL_law_1124 (mm_valveIn_2 hn hm hg.1 (by omega) _ _ (rk_of hm h1) h2) lk_L_216 rfl (isO_MO _ _ _) rfl (ltS (by omega)) ?_ (hR := (fitL (by decide) (by decide) (by omega) (by omega)))
      exact l_tailE (j := 2) dL_law_1127 dL_law_1129 dL_law_1130 dL_law_1133 dL_law_1135 dL_law_1140 (o2 := 15) dL_law_1142 dL_law_1157 (by decide) (by omega) (by decide) (by decide) (th_0 _ _) (by omega) (by omega) (hQ _ _ _ _ _ _ _ _ _ (by omega) (by omega) (by omega) (by omega) ((hI.thI 2).mono (by omega) (Nat.le_refl _) hcb))
  · skip
    refine wa_aload_n dL_law_1092 rfl ?_
    refine l_rd (q := 1) (x := xs (i + 1)) rfl dL_law_1093 dL_law_1094 dL_law_1096 dL_law_1097 dL_law_1098 (by decide) (by omega) hL ?_
    refine l_rd (q := 2) (x := xs (i + 2)) rfl dL_law_1099 dL_law_1100 dL_law_1102 dL_law_1103 dL_law_1104 (by decide) (by omega) hL ?_
    refine wa_aload_n dL_law_1105 rfl ?_
    refine wa_callW (As := [.ref 0, .int (xs (i + 1)), .int (xs (i + 2)), .ref 277]) dL_law_1106 lk_L_214 (wl_valveIn_1 hn (vr_valveIn_1 hn hh hg _ _ h1)) rfl (by exact Nat.le_of_ble_eq_true rfl) (fitL (by decide) (by decide) (by omega) (by omega)) (by exact Nat.le_of_ble_eq_true rfl) (fun ro n' h' q _ => ?_) (fun E n' h' q _ => by cases q.1)
    obtain ⟨q1, q2, q3⟩ := q
    rw [q2, q3]
    cases q1
    refine wa_istore dL_law_1109 rfl ?_
    refine wa_aload_n dL_law_1111 rfl ?_
    refine l_rd (q := 1) (x := xs (i + 1)) rfl dL_law_1112 dL_law_1113 dL_law_1115 dL_law_1116 dL_law_1117 (by decide) (by omega) hL ?_
    refine l_rd (q := 2) (x := xs (i + 2)) rfl dL_law_1118 dL_law_1119 dL_law_1121 dL_law_1122 dL_law_1123 (by decide) (by omega) hL ?_
    refine c_VI dL_law_1124 (mm_valveIn_1 hn hm hg.1 (by omega) _ _ (rk_no hm h1)) lk_L_216 rfl (isO_MO _ _ _) rfl (ltS (by omega)) ?_ (hR := (fitL (by decide) (by decide) (by omega) (by omega)))
    exact l_tailE (j := 1) dL_law_1127 dL_law_1129 dL_law_1130 dL_law_1133 dL_law_1135 dL_law_1140 (o2 := 15) dL_law_1142 dL_law_1157 (by decide) (by omega) (by decide) (by decide) (th_0 _ _) (by omega) (by omega) (hQ _ _ _ _ _ _ _ _ _ (by omega) (by omega) (by omega) (by omega) ((hI.thI 1).mono (by omega) (Nat.le_refl _) hcb))
theorem lc_lack {L : Nat} {xs : Nat → Int32} {Q : ab_Q} {k z n i c : Nat} {a b c1 d : Option Value} {S : SS} {T : Int} (hi : i + 6 ≤ L) (hL : L ≤ 3072) (hI : INV T n c S) (hT0 : 0 ≤ T) (hT : T ≤ 110000) (hk : k + 80 ≤ 601024) (hz : z + 13300 ≤ 7293034) (hnb : n + 80 ≤ 900000) (hQ : LK L xs Q T n k z i) : LX L xs Q k z 1328 (lsL i a b c1 d) [] n (Hp S) := by
  have hn := hI.n
  have hh := hI.hh
  have hg := hI.gg
  have hm := hI.m
  have hcb := hI.1.2.1
  have e9 : ab_CB = 1000000 := rfl
  by_cases h1 : 0 ≤ xs (i + 1) ∧ xs (i + 1) < S.1 268 0
  · skip
    obtain ⟨r, hr, hr6, e1⟩ := hI.rnI h1
    have h1' : 0 ≤ nI r ∧ nI r < S.1 268 0 := by rw [← e1]; exact h1
    by_cases h2 : inr (xs (i + 2)) 0 500
    · skip
      obtain ⟨N, hN, e2⟩ := in_nI (m := 500) (by decide) h2
      have h2' : inr (nI N) 0 500 := by rw [← e2]; exact h2
      refine wa_aload_n dL_law_1328 rfl ?_
      refine l_rd (q := 1) (x := nI r) e1 dL_law_1329 dL_law_1330 dL_law_1332 dL_law_1333 dL_law_1334 (by decide) (by omega) hL ?_
      refine l_rd (q := 2) (x := nI N) e2 dL_law_1335 dL_law_1336 dL_law_1338 dL_law_1339 dL_law_1340 (by decide) (by omega) hL ?_
      refine wa_aload_n dL_law_1341 rfl ?_
      refine wa_callW (As := [.ref 0, .int (nI r), .int (nI N), .ref 277]) dL_law_1342 lk_L_226 (wl_lack_0 (P := fun v' n' S' => n' = n ∧ v' = (lackN (S.1 268) r N) ∧ FRc 57 S S') hn (vr_lack_0 hn hh hg hr hN (by omega)) (fun r n' h' q => by obtain ⟨p1, v, S', p2, p3, p4, p5⟩ := q; exact ⟨v, S', p2, p3, p1, p5, p4⟩)) rfl (by exact Nat.le_of_ble_eq_true rfl) (fitL (by decide) (by decide) (by omega) (by omega)) (by exact Nat.le_of_ble_eq_true rfl) (fun ro n' h' q _ => ?_) (fun E n' h' q _ => by cases q.1)
      obtain ⟨q1, v, S', q2, -, q3, q4, q5⟩ := q
      cases q1
      rw [q2, q3, q4]
      have hI1 := hI.trial q5
      have e8 : S'.1 268 = S.1 268 := (q5.2 268 (by decide)).1
      have hI0 := hI1.soI ((lackN (S.1 268) r N) : Int32).toInt64
      have e8' : (so S' ((lackN (S.1 268) r N) : Int32).toInt64).1 268 = S.1 268 := e8
      have hTg : T < 2147400000 := by omega
      have hM := (mm_lack_0 hn hI0.m hI0.gg.1 hTg hr6 hN (rk_of hI0.m (by rw [e8']; exact h1')) h2')
      rw [e8'] at hM
      refine wa_istore dL_law_1345 rfl ?_
      refine wa_aload_n dL_law_1347 rfl ?_
      refine l_rd (q := 1) (x := nI r) e1 dL_law_1348 dL_law_1349 dL_law_1351 dL_law_1352 dL_law_1353 (by decide) (by omega) hL ?_
      refine l_rd (q := 2) (x := nI N) e2 dL_law_1354 dL_law_1355 dL_law_1357 dL_law_1358 dL_law_1359 (by decide) (by omega) hL ?_
      refine c_VI dL_law_1360 hM lk_L_228 rfl (isO_MO _ _ _) rfl (ltS (by omega)) ?_ (hR := (fitL (by decide) (by decide) (by omega) (by omega)))
      exact l_tail0 dL_law_1363 dL_law_1365 dL_law_1366 dL_law_1369 dL_law_1371 dL_law_1376 dL_law_1378 dL_law_1381 dL_law_1382 dL_law_1383 dL_law_1384 dL_law_1386 dL_law_1387 dL_law_1388 dL_law_1393 (by decide) (by omega) ((congrFun (su_n _ _ (by decide)) 0).trans (th_0 _ _)) rfl (by omega) (by omega) (hQ _ _ _ _ _ _ _ _ _ (by omega) (by omega) (by omega) (by omega) (((hI0.thI 0).aside).mono (by omega) (Nat.le_refl _) hcb))
    · skip
      refine wa_aload_n dL_law_1328 rfl ?_
      refine l_rd (q := 1) (x := xs (i + 1)) rfl dL_law_1329 dL_law_1330 dL_law_1332 dL_law_1333 dL_law_1334 (by decide) (by omega) hL ?_
      refine l_rd (q := 2) (x := xs (i + 2)) rfl dL_law_1335 dL_law_1336 dL_law_1338 dL_law_1339 dL_law_1340 (by decide) (by omega) hL ?_
      refine wa_aload_n dL_law_1341 rfl ?_
      refine wa_callW (As := [.ref 0, .int (xs (i + 1)), .int (xs (i + 2)), .ref 277]) dL_law_1342 lk_L_226 (wl_lack_2 hn (vr_lack_2 hn hh hg _ _ h1 h2)) rfl (by exact Nat.le_of_ble_eq_true rfl) (fitL (by decide) (by decide) (by omega) (by omega)) (by exact Nat.le_of_ble_eq_true rfl) (fun ro n' h' q _ => ?_) (fun E n' h' q _ => by cases q.1)
      obtain ⟨q1, q2, q3⟩ := q
      rw [q2, q3]
      cases q1
      refine wa_istore dL_law_1345 rfl ?_
      refine wa_aload_n dL_law_1347 rfl ?_
      refine l_rd (q := 1) (x := xs (i + 1)) rfl dL_law_1348 dL_law_1349 dL_law_1351 dL_law_1352 dL_law_1353 (by decide) (by omega) hL ?_
      refine l_rd (q := 2) (x := xs (i + 2)) rfl dL_law_1354 dL_law_1355 dL_law_1357 dL_law_1358 dL_law_1359 (by decide) (by omega) hL ?_
      refine c_VI dL_law_1360 (mm_lack_2 hn hm hg.1 (by omega) _ _ (rk_of hm h1) h2) lk_L_228 rfl (isO_MO _ _ _) rfl (ltS (by omega)) ?_ (hR := (fitL (by decide) (by decide) (by omega) (by omega)))
      exact l_tailE (j := 2) dL_law_1363 dL_law_1365 dL_law_1366 dL_law_1369 dL_law_1371 dL_law_1376 (o2 := 15) dL_law_1378 dL_law_1393 (by decide) (by omega) (by decide) (by decide) (th_0 _ _) (by omega) (by omega) (hQ _ _ _ _ _ _ _ _ _ (by omega) (by omega) (by omega) (by omega) ((hI.thI 2).mono (by omega) (Nat.le_refl _) hcb))
  · skip
    refine wa_aload_n dL_law_1328 rfl ?_
    refine l_rd (q := 1) (x := xs (i + 1)) rfl dL_law_1329 dL_law_1330 dL_law_1332 dL_law_1333 dL_law_1334 (by decide) (by omega) hL ?_
    refine l_rd (q := 2) (x := xs (i + 2)) rfl dL_law_1335 dL_law_1336 dL_law_1338 dL_law_1339 dL_law_1340 (by decide) (by omega) hL ?_
    refine wa_aload_n dL_law_1341 rfl ?_
    refine wa_callW (As := [.ref 0, .int (xs (i + 1)), .int (xs (i + 2)), .ref 277]) dL_law_1342 lk_L_226 (wl_lack_1 hn (vr_lack_1 hn hh hg _ _ h1)) rfl (by exact Nat.le_of_ble_eq_true rfl) (fitL (by decide) (by decide) (by omega) (by omega)) (by exact Nat.le_of_ble_eq_true rfl) (fun ro n' h' q _ => ?_) (fun E n' h' q _ => by cases q.1)
    obtain ⟨q1, q2, q3⟩ := q
    rw [q2, q3]
    cases q1
    refine wa_istore dL_law_1345 rfl ?_
    refine wa_aload_n dL_law_1347 rfl ?_
    refine l_rd (q := 1) (x := xs (i + 1)) rfl dL_law_1348 dL_law_1349 dL_law_1351 dL_law_1352 dL_law_1353 (by decide) (by omega) hL ?_
    refine l_rd (q := 2) (x := xs (i + 2)) rfl dL_law_1354 dL_law_1355 dL_law_1357 dL_law_1358 dL_law_1359 (by decide) (by omega) hL ?_
    refine c_VI dL_law_1360 (mm_lack_1 hn hm hg.1 (by omega) _ _ (rk_no hm h1)) lk_L_228 rfl (isO_MO _ _ _) rfl (ltS (by omega)) ?_ (hR := (fitL (by decide) (by decide) (by omega) (by omega)))
    exact l_tailE (j := 1) dL_law_1363 dL_law_1365 dL_law_1366 dL_law_1369 dL_law_1371 dL_law_1376 (o2 := 15) dL_law_1378 dL_law_1393 (by decide) (by omega) (by decide) (by decide) (th_0 _ _) (by omega) (by omega) (hQ _ _ _ _ _ _ _ _ _ (by omega) (by omega) (by omega) (by omega) ((hI.thI 1).mono (by omega) (Nat.le_refl _) hcb))
theorem lc_coldBy {L : Nat} {xs : Nat → Int32} {Q : ab_Q} {k z n i c : Nat} {a b c1 d : Option Value} {S : SS} {T : Int} (hi : i + 6 ≤ L) (hL : L ≤ 3072) (hI : INV T n c S) (hT0 : 0 ≤ T) (hT : T ≤ 110000) (hk : k + 80 ≤ 601024) (hz : z + 13300 ≤ 7293034) (hnb : n + 80 ≤ 900000) (hQ : LK L xs Q T n k z i) : LX L xs Q k z 1588 (lsL i a b c1 d) [] n (Hp S) := by
  have hn := hI.n
  have hh := hI.hh
  have hg := hI.gg
  have hm := hI.m
  have hcb := hI.1.2.1
  have e9 : ab_CB = 1000000 := rfl
  by_cases h1 : 0 ≤ xs (i + 1) ∧ xs (i + 1) < S.1 268 0
  · skip
    obtain ⟨r, hr, hr6, e1⟩ := hI.rnI h1
    have h1' : 0 ≤ nI r ∧ nI r < S.1 268 0 := by rw [← e1]; exact h1
    by_cases h2 : inr (xs (i + 2)) 0 500
    · skip
      obtain ⟨N, hN, e2⟩ := in_nI (m := 500) (by decide) h2
      have h2' : inr (nI N) 0 500 := by rw [← e2]; exact h2
      refine wa_aload_n dL_law_1588 rfl ?_
      refine l_rd (q := 1) (x := nI r) e1 dL_law_1589 dL_law_1590 dL_law_1592 dL_law_1593 dL_law_1594 (by decide) (by omega) hL ?_
      refine l_rd (q := 2) (x := nI N) e2 dL_law_1595 dL_law_1596 dL_law_1598 dL_law_1599 dL_law_1600 (by decide) (by omega) hL ?_
      refine wa_aload_n dL_law_1601 rfl ?_
      refine wa_callW (As := [.ref 0, .int (nI r), .int (nI N), .ref 277]) dL_law_1602 lk_L_239 (wl_coldBy_0 (P := fun v' n' S' => n' = n ∧ v' = (i_max 0 (of (ticksN (S.1 268) N) r 0 - of (ticksN (pt (S.1 268) r 5 1) N) r 0)) ∧ FRc 57 S S') hn (vr_coldBy_0 hn hh hg hr hN (by omega)) (fun r n' h' q => by obtain ⟨p1, v, S', p2, p3, p4, p5⟩ := q; exact ⟨v, S', p2, p3, p1, p5, p4⟩)) rfl (by exact Nat.le_of_ble_eq_true rfl) (fitL (by decide) (by decide) (by omega) (by omega)) (by exact Nat.le_of_ble_eq_true rfl) (fun ro n' h' q _ => ?_) (fun E n' h' q _ => by cases q.1)
      obtain ⟨q1, v, S', q2, -, q3, q4, q5⟩ := q
      cases q1
      rw [q2, q3, q4]
      have hI1 := hI.trial q5
      have e8 : S'.1 268 = S.1 268 := (q5.2 268 (by decide)).1
      have hI0 := hI1.soI ((i_max 0 (of (ticksN (S.1 268) N) r 0 - of (ticksN (pt (S.1 268) r 5 1) N) r 0)) : Int32).toInt64
      have e8' : (so S' ((i_max 0 (of (ticksN (S.1 268) N) r 0 - of (ticksN (pt (S.1 268) r 5 1) N) r 0)) : Int32).toInt64).1 268 = S.1 268 := e8
      have hTg : T < 2147400000 := by omega
      have hM := (mm_coldBy_0 hn hI0.m hI0.gg.1 hTg hr6 hN (rk_of hI0.m (by rw [e8']; exact h1')) h2')
      rw [e8'] at hM
      refine wa_istore dL_law_1605 rfl ?_
      refine wa_aload_n dL_law_1607 rfl ?_
      refine l_rd (q := 1) (x := nI r) e1 dL_law_1608 dL_law_1609 dL_law_1611 dL_law_1612 dL_law_1613 (by decide) (by omega) hL ?_
      refine l_rd (q := 2) (x := nI N) e2 dL_law_1614 dL_law_1615 dL_law_1617 dL_law_1618 dL_law_1619 (by decide) (by omega) hL ?_
      refine c_VI dL_law_1620 hM lk_L_241 rfl (isO_MO _ _ _) rfl (ltS (by omega)) ?_ (hR := (fitL (by decide) (by decide) (by omega) (by omega)))
      exact l_tail0 dL_law_1623 dL_law_1625 dL_law_1626 dL_law_1629 dL_law_1631 dL_law_1636 dL_law_1638 dL_law_1641 dL_law_1642 dL_law_1643 dL_law_1644 dL_law_1646 dL_law_1647 dL_law_1648 dL_law_1653 (by decide) (by omega) ((congrFun (su_n _ _ (by decide)) 0).trans (th_0 _ _)) rfl (by omega) (by omega) (hQ _ _ _ _ _ _ _ _ _ (by omega) (by omega) (by omega) (by omega) (((hI0.thI 0).aside).mono (by omega) (Nat.le_refl _) hcb))
    · skip
      refine wa_aload_n dL_law_1588 rfl ?_
      refine l_rd (q := 1) (x := xs (i + 1)) rfl dL_law_1589 dL_law_1590 dL_law_1592 dL_law_1593 dL_law_1594 (by decide) (by omega) hL ?_
      refine l_rd (q := 2) (x := xs (i + 2)) rfl dL_law_1595 dL_law_1596 dL_law_1598 dL_law_1599 dL_law_1600 (by decide) (by omega) hL ?_
      refine wa_aload_n dL_law_1601 rfl ?_
      refine wa_callW (As := [.ref 0, .int (xs (i + 1)), .int (xs (i + 2)), .ref 277]) dL_law_1602 lk_L_239 (wl_coldBy_2 hn (vr_coldBy_2 hn hh hg _ _ h1 h2)) rfl (by exact Nat.le_of_ble_eq_true rfl) (fitL (by decide) (by decide) (by omega) (by omega)) (by exact Nat.le_of_ble_eq_true rfl) (fun ro n' h' q _ => ?_) (fun E n' h' q _ => by cases q.1)
      obtain ⟨q1, q2, q3⟩ := q
      rw [q2, q3]
      cases q1
      refine wa_istore dL_law_1605 rfl ?_
      refine wa_aload_n dL_law_1607 rfl ?_
      refine l_rd (q := 1) (x := xs (i + 1)) rfl dL_law_1608 dL_law_1609 dL_law_1611 dL_law_1612 dL_law_1613 (by decide) (by omega) hL ?_
      refine l_rd (q := 2) (x := xs (i + 2)) rfl dL_law_1614 dL_law_1615 dL_law_1617 dL_law_1618 dL_law_1619 (by decide) (by omega) hL ?_
      refine c_VI dL_law_1620 (mm_coldBy_2 hn hm hg.1 (by omega) _ _ (rk_of hm h1) h2) lk_L_241 rfl (isO_MO _ _ _) rfl (ltS (by omega)) ?_ (hR := (fitL (by decide) (by decide) (by omega) (by omega)))
      exact l_tailE (j := 2) dL_law_1623 dL_law_1625 dL_law_1626 dL_law_1629 dL_law_1631 dL_law_1636 (o2 := 15) dL_law_1638 dL_law_1653 (by decide) (by omega) (by decide) (by decide) (th_0 _ _) (by omega) (by omega) (hQ _ _ _ _ _ _ _ _ _ (by omega) (by omega) (by omega) (by omega) ((hI.thI 2).mono (by omega) (Nat.le_refl _) hcb))
  · skip
    refine wa_aload_n dL_law_1588 rfl ?_
    refine l_rd (q := 1) (x := xs (i + 1)) rfl dL_law_1589 dL_law_1590 dL_law_1592 dL_law_1593 dL_law_1594 (by decide) (by omega) hL ?_
    refine l_rd (q := 2) (x := xs (i + 2)) rfl dL_law_1595 dL_law_1596 dL_law_1598 dL_law_1599 dL_law_1600 (by decide) (by omega) hL ?_
    refine wa_aload_n dL_law_1601 rfl ?_
    refine wa_callW (As := [.ref 0, .int (xs (i + 1)), .int (xs (i + 2)), .ref 277]) dL_law_1602 lk_L_239 (wl_coldBy_1 hn (vr_coldBy_1 hn hh hg _ _ h1)) rfl (by exact Nat.le_of_ble_eq_true rfl) (fitL (by decide) (by decide) (by omega) (by omega)) (by exact Nat.le_of_ble_eq_true rfl) (fun ro n' h' q _ => ?_) (fun E n' h' q _ => by cases q.1)
    obtain ⟨q1, q2, q3⟩ := q
    rw [q2, q3]
    cases q1
    refine wa_istore dL_law_1605 rfl ?_
    refine wa_aload_n dL_law_1607 rfl ?_
    refine l_rd (q := 1) (x := xs (i + 1)) rfl dL_law_1608 dL_law_1609 dL_law_1611 dL_law_1612 dL_law_1613 (by decide) (by omega) hL ?_
    refine l_rd (q := 2) (x := xs (i + 2)) rfl dL_law_1614 dL_law_1615 dL_law_1617 dL_law_1618 dL_law_1619 (by decide) (by omega) hL ?_
    refine c_VI dL_law_1620 (mm_coldBy_1 hn hm hg.1 (by omega) _ _ (rk_no hm h1)) lk_L_241 rfl (isO_MO _ _ _) rfl (ltS (by omega)) ?_ (hR := (fitL (by decide) (by decide) (by omega) (by omega)))
    exact l_tailE (j := 1) dL_law_1623 dL_law_1625 dL_law_1626 dL_law_1629 dL_law_1631 dL_law_1636 (o2 := 15) dL_law_1638 dL_law_1653 (by decide) (by omega) (by decide) (by decide) (th_0 _ _) (by omega) (by omega) (hQ _ _ _ _ _ _ _ _ _ (by omega) (by omega) (by omega) (by omega) ((hI.thI 1).mono (by omega) (Nat.le_refl _) hcb))
theorem lc_warmIn {L : Nat} {xs : Nat → Int32} {Q : ab_Q} {k z n i c : Nat} {a b c1 d : Option Value} {S : SS} {T : Int} (hi : i + 6 ≤ L) (hL : L ≤ 3072) (hI : INV T n c S) (hT0 : 0 ≤ T) (hT : T ≤ 110000) (hk : k + 80 ≤ 601024) (hz : z + 13300 ≤ 7293034) (hnb : n + 80 ≤ 900000) (hQ : LK L xs Q T n k z i) : LX L xs Q k z 1160 (lsL i a b c1 d) [] n (Hp S) := by
  have hn := hI.n
  have hh := hI.hh
  have hg := hI.gg
  have hm := hI.m
  have hcb := hI.1.2.1
  have e9 : ab_CB = 1000000 := rfl
  by_cases h1 : 0 ≤ xs (i + 1) ∧ xs (i + 1) < S.1 268 0
  · skip
    obtain ⟨r, hr, hr6, e1⟩ := hI.rnI h1
    have h1' : 0 ≤ nI r ∧ nI r < S.1 268 0 := by rw [← e1]; exact h1
    refine wa_aload_n dL_law_1160 rfl ?_
    refine l_rd (q := 1) (x := nI r) e1 dL_law_1161 dL_law_1162 dL_law_1164 dL_law_1165 dL_law_1166 (by decide) (by omega) hL ?_
    refine wa_aload_n dL_law_1167 rfl ?_
    refine wa_callW (As := [.ref 0, .int (nI r), .ref 277]) dL_law_1168 lk_L_217 (wl_warmIn_0 (P := fun v' n' S' => n' = n ∧ v' = (fst (fun k => tgt (ticksN (S.1 268) k) r ≤ of (ticksN (S.1 268) k) r 0) 501 0) ∧ FRc 57 S S') hn (vr_warmIn_0 hn hh hg hr (by omega)) (fun r n' h' q => by obtain ⟨p1, v, S', p2, p3, p4, p5⟩ := q; exact ⟨v, S', p2, p3, p1, p5, p4⟩)) rfl (by exact Nat.le_of_ble_eq_true rfl) (fitL (by decide) (by decide) (by omega) (by omega)) (by exact Nat.le_of_ble_eq_true rfl) (fun ro n' h' q _ => ?_) (fun E n' h' q _ => by cases q.1)
    obtain ⟨q1, v, S', q2, -, q3, q4, q5⟩ := q
    cases q1
    rw [q2, q3, q4]
    have hI1 := hI.trial q5
    have e8 : S'.1 268 = S.1 268 := (q5.2 268 (by decide)).1
    have hI0 := hI1.soI ((fst (fun k => tgt (ticksN (S.1 268) k) r ≤ of (ticksN (S.1 268) k) r 0) 501 0) : Int32).toInt64
    have e8' : (so S' ((fst (fun k => tgt (ticksN (S.1 268) k) r ≤ of (ticksN (S.1 268) k) r 0) 501 0) : Int32).toInt64).1 268 = S.1 268 := e8
    have hTg : T < 2147400000 := by omega
    have hM := (mm_warmIn_0 hn hI0.m hI0.gg.1 hTg hr6 (rk_of hI0.m (by rw [e8']; exact h1')))
    rw [e8'] at hM
    refine wa_istore dL_law_1171 rfl ?_
    refine wa_aload_n dL_law_1173 rfl ?_
    refine l_rd (q := 1) (x := nI r) e1 dL_law_1174 dL_law_1175 dL_law_1177 dL_law_1178 dL_law_1179 (by decide) (by omega) hL ?_
    refine c_VI dL_law_1180 hM lk_L_219 rfl (isO_MO _ _ _) rfl (ltS (by omega)) ?_ (hR := (fitL (by decide) (by decide) (by omega) (by omega)))
    exact l_tail0 dL_law_1183 dL_law_1185 dL_law_1186 dL_law_1189 dL_law_1191 dL_law_1196 dL_law_1198 dL_law_1201 dL_law_1202 dL_law_1203 dL_law_1204 dL_law_1206 dL_law_1207 dL_law_1208 dL_law_1213 (by decide) (by omega) ((congrFun (su_n _ _ (by decide)) 0).trans (th_0 _ _)) rfl (by omega) (by omega) (hQ _ _ _ _ _ _ _ _ _ (by omega) (by omega) (by omega) (by omega) (((hI0.thI 0).aside).mono (by omega) (Nat.le_refl _) hcb))
  · skip
    refine wa_aload_n dL_law_1160 rfl ?_
    refine l_rd (q := 1) (x := xs (i + 1)) rfl dL_law_1161 dL_law_1162 dL_law_1164 dL_law_1165 dL_law_1166 (by decide) (by omega) hL ?_
    refine wa_aload_n dL_law_1167 rfl ?_
    refine wa_callW (As := [.ref 0, .int (xs (i + 1)), .ref 277]) dL_law_1168 lk_L_217 (wl_warmIn_1 hn (vr_warmIn_1 hn hh hg _ h1)) rfl (by exact Nat.le_of_ble_eq_true rfl) (fitL (by decide) (by decide) (by omega) (by omega)) (by exact Nat.le_of_ble_eq_true rfl) (fun ro n' h' q _ => ?_) (fun E n' h' q _ => by cases q.1)
    obtain ⟨q1, q2, q3⟩ := q
    rw [q2, q3]
    cases q1
    refine wa_istore dL_law_1171 rfl ?_
    refine wa_aload_n dL_law_1173 rfl ?_
    refine l_rd (q := 1) (x := xs (i + 1)) rfl dL_law_1174 dL_law_1175 dL_law_1177 dL_law_1178 dL_law_1179 (by decide) (by omega) hL ?_
    refine c_VI dL_law_1180 (mm_warmIn_1 hn hm hg.1 (by omega) _ (rk_no hm h1)) lk_L_219 rfl (isO_MO _ _ _) rfl (ltS (by omega)) ?_ (hR := (fitL (by decide) (by decide) (by omega) (by omega)))
    exact l_tailE (j := 1) dL_law_1183 dL_law_1185 dL_law_1186 dL_law_1189 dL_law_1191 dL_law_1196 (o2 := 15) dL_law_1198 dL_law_1213 (by decide) (by omega) (by decide) (by decide) (th_0 _ _) (by omega) (by omega) (hQ _ _ _ _ _ _ _ _ _ (by omega) (by omega) (by omega) (by omega) ((hI.thI 1).mono (by omega) (Nat.le_refl _) hcb))
theorem lc_emptyIn {L : Nat} {xs : Nat → Int32} {Q : ab_Q} {k z n i c : Nat} {a b c1 d : Option Value} {S : SS} {T : Int} (hi : i + 6 ≤ L) (hL : L ≤ 3072) (hI : INV T n c S) (hT0 : 0 ≤ T) (hT : T ≤ 110000) (hk : k + 80 ≤ 601024) (hz : z + 13300 ≤ 7293034) (hnb : n + 80 ≤ 900000) (hQ : LK L xs Q T n k z i) : LX L xs Q k z 1216 (lsL i a b c1 d) [] n (Hp S) := by
  have hn := hI.n
  have hh := hI.hh
  have hg := hI.gg
  have hm := hI.m
  have hcb := hI.1.2.1
  have e9 : ab_CB = 1000000 := rfl
  by_cases h1 : 0 ≤ xs (i + 1) ∧ xs (i + 1) < S.1 268 0
  · skip
    obtain ⟨r, hr, hr6, e1⟩ := hI.rnI h1
    have h1' : 0 ≤ nI r ∧ nI r < S.1 268 0 := by rw [← e1]; exact h1
    refine wa_aload_n dL_law_1216 rfl ?_
    refine l_rd (q := 1) (x := nI r) e1 dL_law_1217 dL_law_1218 dL_law_1220 dL_law_1221 dL_law_1222 (by decide) (by omega) hL ?_
    refine wa_aload_n dL_law_1223 rfl ?_
    refine wa_callW (As := [.ref 0, .int (nI r), .ref 277]) dL_law_1224 lk_L_220 (wl_emptyIn_0 (P := fun v' n' S' => n' = n ∧ v' = (fst (fun k => of (ticksN (S.1 268) k) r 2 = 0) 501 0) ∧ FRc 57 S S') hn (vr_emptyIn_0 hn hh hg hr (by omega)) (fun r n' h' q => by obtain ⟨p1, v, S', p2, p3, p4, p5⟩ := q; exact ⟨v, S', p2, p3, p1, p5, p4⟩)) rfl (by exact Nat.le_of_ble_eq_true rfl) (fitL (by decide) (by decide) (by omega) (by omega)) (by exact Nat.le_of_ble_eq_true rfl) (fun ro n' h' q _ => ?_) (fun E n' h' q _ => by cases q.1)
    obtain ⟨q1, v, S', q2, -, q3, q4, q5⟩ := q
    cases q1
    rw [q2, q3, q4]
    have hI1 := hI.trial q5
    have e8 : S'.1 268 = S.1 268 := (q5.2 268 (by decide)).1
    have hI0 := hI1.soI ((fst (fun k => of (ticksN (S.1 268) k) r 2 = 0) 501 0) : Int32).toInt64
    have e8' : (so S' ((fst (fun k => of (ticksN (S.1 268) k) r 2 = 0) 501 0) : Int32).toInt64).1 268 = S.1 268 := e8
    have hTg : T < 2147400000 := by omega
    have hM := (mm_emptyIn_0 hn hI0.m hI0.gg.1 hTg hr6 (rk_of hI0.m (by rw [e8']; exact h1')))
    rw [e8'] at hM
    refine wa_istore dL_law_1227 rfl ?_
    refine wa_aload_n dL_law_1229 rfl ?_
    refine l_rd (q := 1) (x := nI r) e1 dL_law_1230 dL_law_1231 dL_law_1233 dL_law_1234 dL_law_1235 (by decide) (by omega) hL ?_
    refine c_VI dL_law_1236 hM lk_L_222 rfl (isO_MO _ _ _) rfl (ltS (by omega)) ?_ (hR := (fitL (by decide) (by decide) (by omega) (by omega)))
    exact l_tail0 dL_law_1239 dL_law_1241 dL_law_1242 dL_law_1245 dL_law_1247 dL_law_1252 dL_law_1254 dL_law_1257 dL_law_1258 dL_law_1259 dL_law_1260 dL_law_1262 dL_law_1263 dL_law_1264 dL_law_1269 (by decide) (by omega) ((congrFun (su_n _ _ (by decide)) 0).trans (th_0 _ _)) rfl (by omega) (by omega) (hQ _ _ _ _ _ _ _ _ _ (by omega) (by omega) (by omega) (by omega) (((hI0.thI 0).aside).mono (by omega) (Nat.le_refl _) hcb))
  · skip
    refine wa_aload_n dL_law_1216 rfl ?_
    refine l_rd (q := 1) (x := xs (i + 1)) rfl dL_law_1217 dL_law_1218 dL_law_1220 dL_law_1221 dL_law_1222 (by decide) (by omega) hL ?_
    refine wa_aload_n dL_law_1223 rfl ?_
    refine wa_callW (As := [.ref 0, .int (xs (i + 1)), .ref 277]) dL_law_1224 lk_L_220 (wl_emptyIn_1 hn (vr_emptyIn_1 hn hh hg _ h1)) rfl (by exact Nat.le_of_ble_eq_true rfl) (fitL (by decide) (by decide) (by omega) (by omega)) (by exact Nat.le_of_ble_eq_true rfl) (fun ro n' h' q _ => ?_) (fun E n' h' q _ => by cases q.1)
    obtain ⟨q1, q2, q3⟩ := q
    rw [q2, q3]
    cases q1
    refine wa_istore dL_law_1227 rfl ?_
    refine wa_aload_n dL_law_1229 rfl ?_
    refine l_rd (q := 1) (x := xs (i + 1)) rfl dL_law_1230 dL_law_1231 dL_law_1233 dL_law_1234 dL_law_1235 (by decide) (by omega) hL ?_
    refine c_VI dL_law_1236 (mm_emptyIn_1 hn hm hg.1 (by omega) _ (rk_no hm h1)) lk_L_222 rfl (isO_MO _ _ _) rfl (ltS (by omega)) ?_ (hR := (fitL (by decide) (by decide) (by omega) (by omega)))
    exact l_tailE (j := 1) dL_law_1239 dL_law_1241 dL_law_1242 dL_law_1245 dL_law_1247 dL_law_1252 (o2 := 15) dL_law_1254 dL_law_1269 (by decide) (by omega) (by decide) (by decide) (th_0 _ _) (by omega) (by omega) (hQ _ _ _ _ _ _ _ _ _ (by omega) (by omega) (by omega) (by omega) ((hI.thI 1).mono (by omega) (Nat.le_refl _) hcb))
theorem lc_bestGain {L : Nat} {xs : Nat → Int32} {Q : ab_Q} {k z n i c : Nat} {a b c1 d : Option Value} {S : SS} {T : Int} (hi : i + 6 ≤ L) (hL : L ≤ 3072) (hI : INV T n c S) (hT0 : 0 ≤ T) (hT : T ≤ 110000) (hk : k + 80 ≤ 601024) (hz : z + 13300 ≤ 7293034) (hnb : n + 80 ≤ 900000) (hQ : LK L xs Q T n k z i) : LX L xs Q k z 1452 (lsL i a b c1 d) [] n (Hp S) := by
  have hn := hI.n
  have hh := hI.hh
  have hg := hI.gg
  have hm := hI.m
  have hcb := hI.1.2.1
  have e9 : ab_CB = 1000000 := rfl
  by_cases h1 : 0 ≤ xs (i + 1) ∧ xs (i + 1) < S.1 268 0
  · skip
    obtain ⟨r, hr, hr6, e1⟩ := hI.rnI h1
    have h1' : 0 ≤ nI r ∧ nI r < S.1 268 0 := by rw [← e1]; exact h1
    refine wa_aload_n dL_law_1452 rfl ?_
    refine l_rd (q := 1) (x := nI r) e1 dL_law_1453 dL_law_1454 dL_law_1456 dL_law_1457 dL_law_1458 (by decide) (by omega) hL ?_
    refine wa_aload_n dL_law_1459 rfl ?_
    refine wa_callW (As := [.ref 0, .int (nI r), .ref 277]) dL_law_1460 lk_L_232 (wl_bestGain_0 (P := fun v' n' S' => n' = n ∧ v' = ((bg (fun a => lackN (upd (S.1 268) 8 (nI a)) r 48) 50).1) ∧ FRc 57 S S') hn (vr_bestGain_0 hn hh hg hr (by omega)) (fun r n' h' q => by obtain ⟨p1, v, S', p2, p3, p4, p5⟩ := q; exact ⟨v, S', p2, p3, p1, p5, p4⟩)) rfl (by exact Nat.le_of_ble_eq_true rfl) (fitL (by decide) (by decide) (by omega) (by omega)) (by exact Nat.le_of_ble_eq_true rfl) (fun ro n' h' q _ => ?_) (fun E n' h' q _ => by cases q.1)
    obtain ⟨q1, v, S', q2, -, q3, q4, q5⟩ := q
    cases q1
    rw [q2, q3, q4]
    have hI1 := hI.trial q5
    have e8 : S'.1 268 = S.1 268 := (q5.2 268 (by decide)).1
    have hI0 := hI1.soI (((bg (fun a => lackN (upd (S.1 268) 8 (nI a)) r 48) 50).1) : Int32).toInt64
    have e8' : (so S' (((bg (fun a => lackN (upd (S.1 268) 8 (nI a)) r 48) 50).1) : Int32).toInt64).1 268 = S.1 268 := e8
    have hTg : T < 2147400000 := by omega
    have hM := (mm_bestGain_0 hn hI0.m hI0.gg.1 hTg hr6 (rk_of hI0.m (by rw [e8']; exact h1')))
    rw [e8'] at hM
    refine wa_istore dL_law_1463 rfl ?_
    refine wa_aload_n dL_law_1465 rfl ?_
    refine l_rd (q := 1) (x := nI r) e1 dL_law_1466 dL_law_1467 dL_law_1469 dL_law_1470 dL_law_1471 (by decide) (by omega) hL ?_
    refine c_VI dL_law_1472 hM lk_L_234 rfl (isO_MO _ _ _) rfl (ltS (by omega)) ?_ (hR := (fitL (by decide) (by decide) (by omega) (by omega)))
    exact l_tail0 dL_law_1475 dL_law_1477 dL_law_1478 dL_law_1481 dL_law_1483 dL_law_1488 dL_law_1490 dL_law_1493 dL_law_1494 dL_law_1495 dL_law_1496 dL_law_1498 dL_law_1499 dL_law_1500 dL_law_1505 (by decide) (by omega) ((congrFun (su_n _ _ (by decide)) 0).trans (th_0 _ _)) rfl (by omega) (by omega) (hQ _ _ _ _ _ _ _ _ _ (by omega) (by omega) (by omega) (by omega) (((hI0.thI 0).aside).mono (by omega) (Nat.le_refl _) hcb))
  · skip
    refine wa_aload_n dL_law_1452 rfl ?_
    refine l_rd (q := 1) (x := xs (i + 1)) rfl dL_law_1453 dL_law_1454 dL_law_1456 dL_law_1457 dL_law_1458 (by decide) (by omega) hL ?_
    refine wa_aload_n dL_law_1459 rfl ?_
    refine wa_callW (As := [.ref 0, .int (xs (i + 1)), .ref 277]) dL_law_1460 lk_L_232 (wl_bestGain_1 hn (vr_bestGain_1 hn hh hg _ h1)) rfl (by exact Nat.le_of_ble_eq_true rfl) (fitL (by decide) (by decide) (by omega) (by omega)) (by exact Nat.le_of_ble_eq_true rfl) (fun ro n' h' q _ => ?_) (fun E n' h' q _ => by cases q.1)
    obtain ⟨q1, q2, q3⟩ := q
    rw [q2, q3]
    cases q1
    refine wa_istore dL_law_1463 rfl ?_
    refine wa_aload_n dL_law_1465 rfl ?_
    refine l_rd (q := 1) (x := xs (i + 1)) rfl dL_law_1466 dL_law_1467 dL_law_1469 dL_law_1470 dL_law_1471 (by decide) (by omega) hL ?_
    refine c_VI dL_law_1472 (mm_bestGain_1 hn hm hg.1 (by omega) _ (rk_no hm h1)) lk_L_234 rfl (isO_MO _ _ _) rfl (ltS (by omega)) ?_ (hR := (fitL (by decide) (by decide) (by omega) (by omega)))
    exact l_tailE (j := 1) dL_law_1475 dL_law_1477 dL_law_1478 dL_law_1481 dL_law_1483 dL_law_1488 (o2 := 15) dL_law_1490 dL_law_1505 (by decide) (by omega) (by decide) (by decide) (th_0 _ _) (by omega) (by omega) (hQ _ _ _ _ _ _ _ _ _ (by omega) (by omega) (by omega) (by omega) ((hI.thI 1).mono (by omega) (Nat.le_refl _) hcb))
theorem lc_heatIn {L : Nat} {xs : Nat → Int32} {Q : ab_Q} {k z n i c : Nat} {a b c1 d : Option Value} {S : SS} {T : Int} (hi : i + 6 ≤ L) (hL : L ≤ 3072) (hI : INV T n c S) (hT0 : 0 ≤ T) (hT : T ≤ 110000) (hk : k + 80 ≤ 601024) (hz : z + 13300 ≤ 7293034) (hnb : n + 80 ≤ 900000) (hQ : LK L xs Q T n k z i) : LX L xs Q k z 1396 (lsL i a b c1 d) [] n (Hp S) := by
  have hn := hI.n
  have hh := hI.hh
  have hg := hI.gg
  have hm := hI.m
  have hcb := hI.1.2.1
  have e9 : ab_CB = 1000000 := rfl
  by_cases h1 : inr (xs (i + 1)) 0 500
  · skip
    obtain ⟨N, hN, e2⟩ := in_nI (m := 500) (by decide) h1
    have h1' : inr (nI N) 0 500 := by rw [← e2]; exact h1
    refine wa_aload_n dL_law_1396 rfl ?_
    refine l_rd (q := 1) (x := nI N) e2 dL_law_1397 dL_law_1398 dL_law_1400 dL_law_1401 dL_law_1402 (by decide) (by omega) hL ?_
    refine wa_aload_n dL_law_1403 rfl ?_
    refine wa_callW (As := [.ref 0, .int (nI N), .ref 277]) dL_law_1404 lk_L_229 (wl_heatIn_0 (P := fun v' n' S' => n' = n ∧ v' = (sumN (ticksN (S.1 268) N) 10 (rn (S.1 268)) - sumN (S.1 268) 10 (rn (S.1 268))) ∧ FRc 57 S S') hn (vr_heatIn_0 hn hh hg hN (by omega)) (fun r n' h' q => by obtain ⟨p1, v, S', p2, p3, p4, p5⟩ := q; exact ⟨v, S', p2, p3, p1, p5, p4⟩)) rfl (by exact Nat.le_of_ble_eq_true rfl) (fitL (by decide) (by decide) (by omega) (by omega)) (by exact Nat.le_of_ble_eq_true rfl) (fun ro n' h' q _ => ?_) (fun E n' h' q _ => by cases q.1)
    obtain ⟨q1, v, S', q2, -, q3, q4, q5⟩ := q
    cases q1
    rw [q2, q3, q4]
    have hI1 := hI.trial q5
    have e8 : S'.1 268 = S.1 268 := (q5.2 268 (by decide)).1
    have hI0 := hI1.soI ((sumN (ticksN (S.1 268) N) 10 (rn (S.1 268)) - sumN (S.1 268) 10 (rn (S.1 268))) : Int32).toInt64
    have e8' : (so S' ((sumN (ticksN (S.1 268) N) 10 (rn (S.1 268)) - sumN (S.1 268) 10 (rn (S.1 268))) : Int32).toInt64).1 268 = S.1 268 := e8
    have hTg : T < 2147400000 := by omega
    have hM := (mm_heatIn_0 hn hI0.m hI0.gg.1 hTg hN h1')
    rw [e8'] at hM
    refine wa_istore dL_law_1407 rfl ?_
    refine wa_aload_n dL_law_1409 rfl ?_
    refine l_rd (q := 1) (x := nI N) e2 dL_law_1410 dL_law_1411 dL_law_1413 dL_law_1414 dL_law_1415 (by decide) (by omega) hL ?_
    refine c_VI dL_law_1416 hM lk_L_231 rfl (isO_MO _ _ _) rfl (ltS (by omega)) ?_ (hR := (fitL (by decide) (by decide) (by omega) (by omega)))
    exact l_tail0 dL_law_1419 dL_law_1421 dL_law_1422 dL_law_1425 dL_law_1427 dL_law_1432 dL_law_1434 dL_law_1437 dL_law_1438 dL_law_1439 dL_law_1440 dL_law_1442 dL_law_1443 dL_law_1444 dL_law_1449 (by decide) (by omega) ((congrFun (su_n _ _ (by decide)) 0).trans (th_0 _ _)) rfl (by omega) (by omega) (hQ _ _ _ _ _ _ _ _ _ (by omega) (by omega) (by omega) (by omega) (((hI0.thI 0).aside).mono (by omega) (Nat.le_refl _) hcb))
  · skip
    refine wa_aload_n dL_law_1396 rfl ?_
    refine l_rd (q := 1) (x := xs (i + 1)) rfl dL_law_1397 dL_law_1398 dL_law_1400 dL_law_1401 dL_law_1402 (by decide) (by omega) hL ?_
    refine wa_aload_n dL_law_1403 rfl ?_
    refine wa_callW (As := [.ref 0, .int (xs (i + 1)), .ref 277]) dL_law_1404 lk_L_229 (wl_heatIn_1 hn (vr_heatIn_1 hn hh hg _ h1)) rfl (by exact Nat.le_of_ble_eq_true rfl) (fitL (by decide) (by decide) (by omega) (by omega)) (by exact Nat.le_of_ble_eq_true rfl) (fun ro n' h' q _ => ?_) (fun E n' h' q _ => by cases q.1)
    obtain ⟨q1, q2, q3⟩ := q
    rw [q2, q3]
    cases q1
    refine wa_istore dL_law_1407 rfl ?_
    refine wa_aload_n dL_law_1409 rfl ?_
    refine l_rd (q := 1) (x := xs (i + 1)) rfl dL_law_1410 dL_law_1411 dL_law_1413 dL_law_1414 dL_law_1415 (by decide) (by omega) hL ?_
    refine c_VI dL_law_1416 (mm_heatIn_1 hn hm hg.1 (by omega) _ h1) lk_L_231 rfl (isO_MO _ _ _) rfl (ltS (by omega)) ?_ (hR := (fitL (by decide) (by decide) (by omega) (by omega)))
    exact l_tailE (j := 1) dL_law_1419 dL_law_1421 dL_law_1422 dL_law_1425 dL_law_1427 dL_law_1432 (o2 := 15) dL_law_1434 dL_law_1449 (by decide) (by omega) (by decide) (by decide) (th_0 _ _) (by omega) (by omega) (hQ _ _ _ _ _ _ _ _ _ (by omega) (by omega) (by omega) (by omega) ((hI.thI 1).mono (by omega) (Nat.le_refl _) hcb))
theorem lc_tempIf {L : Nat} {xs : Nat → Int32} {Q : ab_Q} {k z n i c : Nat} {a b c1 d : Option Value} {S : SS} {T : Int} (hi : i + 6 ≤ L) (hL : L ≤ 3072) (hI : INV T n c S) (hT0 : 0 ≤ T) (hT : T ≤ 110000) (hk : k + 80 ≤ 601024) (hz : z + 13300 ≤ 7293034) (hnb : n + 80 ≤ 900000) (hQ : LK L xs Q T n k z i) : LX L xs Q k z 1508 (lsL i a b c1 d) [] n (Hp S) := by
  have hn := hI.n
  have hh := hI.hh
  have hg := hI.gg
  have hm := hI.m
  have hcb := hI.1.2.1
  have e9 : ab_CB = 1000000 := rfl
  by_cases h1 : 0 ≤ xs (i + 1) ∧ xs (i + 1) < S.1 268 0
  · skip
    obtain ⟨r, hr, hr6, e1⟩ := hI.rnI h1
    have h1' : 0 ≤ nI r ∧ nI r < S.1 268 0 := by rw [← e1]; exact h1
    by_cases h2 : inr (xs (i + 3)) 0 500
    · skip
      by_cases h3 : inr (xs (i + 2)) (-300) 400
      · skip
        obtain ⟨N, hN, e3⟩ := in_nI (m := 500) (by decide) h2
        have h2' : inr (nI N) 0 500 := by rw [← e3]; exact h2
        refine wa_aload_n dL_law_1508 rfl ?_
        refine l_rd (q := 1) (x := nI r) e1 dL_law_1509 dL_law_1510 dL_law_1512 dL_law_1513 dL_law_1514 (by decide) (by omega) hL ?_
        refine l_rd (q := 2) (x := xs (i + 2)) rfl dL_law_1515 dL_law_1516 dL_law_1518 dL_law_1519 dL_law_1520 (by decide) (by omega) hL ?_
        refine l_rd (q := 3) (x := nI N) e3 dL_law_1521 dL_law_1522 dL_law_1524 dL_law_1525 dL_law_1526 (by decide) (by omega) hL ?_
        refine wa_aload_n dL_law_1527 rfl ?_
        refine wa_callW (As := [.ref 0, .int (nI r), .int (xs (i + 2)), .int (nI N), .ref 277]) dL_law_1528 lk_L_235 (wl_tempIf_0 (P := fun v' n' S' => n' = n ∧ v' = (of (ticksN (upd (S.1 268) 2 (xs (i + 2))) N) r 0) ∧ FRc 57 S S') hn (vr_tempIf_0 hn hh hg hr hN (by omega) (xs (i + 2)) h3) (fun r n' h' q => by obtain ⟨p1, v, S', p2, p3, p4, p5⟩ := q; exact ⟨v, S', p2, p3, p1, p5, p4⟩)) rfl (by exact Nat.le_of_ble_eq_true rfl) (fitL (by decide) (by decide) (by omega) (by omega)) (by exact Nat.le_of_ble_eq_true rfl) (fun ro n' h' q _ => ?_) (fun E n' h' q _ => by cases q.1)
        obtain ⟨q1, v, S', q2, -, q3, q4, q5⟩ := q
        cases q1
        rw [q2, q3, q4]
        have hI1 := hI.trial q5
        have e8 : S'.1 268 = S.1 268 := (q5.2 268 (by decide)).1
        have hI0 := hI1.soI ((of (ticksN (upd (S.1 268) 2 (xs (i + 2))) N) r 0) : Int32).toInt64
        have e8' : (so S' ((of (ticksN (upd (S.1 268) 2 (xs (i + 2))) N) r 0) : Int32).toInt64).1 268 = S.1 268 := e8
        have hTg : T < 2147400000 := by omega
        have hM := (mm_tempIf_0 hn hI0.m hI0.gg.1 hTg hr6 hN (xs (i + 2)) (rk_of hI0.m (by rw [e8']; exact h1')) h3 h2')
        rw [e8'] at hM
        refine wa_istore dL_law_1531 rfl ?_
        refine wa_aload_n dL_law_1533 rfl ?_
        refine l_rd (q := 1) (x := nI r) e1 dL_law_1534 dL_law_1535 dL_law_1537 dL_law_1538 dL_law_1539 (by decide) (by omega) hL ?_
        refine l_rd (q := 2) (x := xs (i + 2)) rfl dL_law_1540 dL_law_1541 dL_law_1543 dL_law_1544 dL_law_1545 (by decide) (by omega) hL ?_
        refine l_rd (q := 3) (x := nI N) e3 dL_law_1546 dL_law_1547 dL_law_1549 dL_law_1550 dL_law_1551 (by decide) (by omega) hL ?_
        refine c_VI dL_law_1552 hM lk_L_238 rfl (isO_MO _ _ _) rfl (ltS (by omega)) ?_ (hR := (fitL (by decide) (by decide) (by omega) (by omega)))
        exact l_tail0 dL_law_1555 dL_law_1557 dL_law_1558 dL_law_1561 dL_law_1563 dL_law_1568 dL_law_1570 dL_law_1573 dL_law_1574 dL_law_1575 dL_law_1576 dL_law_1578 dL_law_1579 dL_law_1580 dL_law_1585 (by decide) (by omega) ((congrFun (su_n _ _ (by decide)) 0).trans (th_0 _ _)) rfl (by omega) (by omega) (hQ _ _ _ _ _ _ _ _ _ (by omega) (by omega) (by omega) (by omega) (((hI0.thI 0).aside).mono (by omega) (Nat.le_refl _) hcb))
      · skip
        refine wa_aload_n dL_law_1508 rfl ?_
        refine l_rd (q := 1) (x := xs (i + 1)) rfl dL_law_1509 dL_law_1510 dL_law_1512 dL_law_1513 dL_law_1514 (by decide) (by omega) hL ?_
        refine l_rd (q := 2) (x := xs (i + 2)) rfl dL_law_1515 dL_law_1516 dL_law_1518 dL_law_1519 dL_law_1520 (by decide) (by omega) hL ?_
        refine l_rd (q := 3) (x := xs (i + 3)) rfl dL_law_1521 dL_law_1522 dL_law_1524 dL_law_1525 dL_law_1526 (by decide) (by omega) hL ?_
        refine wa_aload_n dL_law_1527 rfl ?_
        refine wa_callW (As := [.ref 0, .int (xs (i + 1)), .int (xs (i + 2)), .int (xs (i + 3)), .ref 277]) dL_law_1528 lk_L_235 (wl_tempIf_2 hn (vr_tempIf_3 hn hh hg _ _ _ h1 h2 h3)) rfl (by exact Nat.le_of_ble_eq_true rfl) (fitL (by decide) (by decide) (by omega) (by omega)) (by exact Nat.le_of_ble_eq_true rfl) (fun ro n' h' q _ => ?_) (fun E n' h' q _ => by cases q.1)
        obtain ⟨q1, q2, q3⟩ := q
        rw [q2, q3]
        cases q1
        refine wa_istore dL_law_1531 rfl ?_
        refine wa_aload_n dL_law_1533 rfl ?_
        refine l_rd (q := 1) (x := xs (i + 1)) rfl dL_law_1534 dL_law_1535 dL_law_1537 dL_law_1538 dL_law_1539 (by decide) (by omega) hL ?_
        refine l_rd (q := 2) (x := xs (i + 2)) rfl dL_law_1540 dL_law_1541 dL_law_1543 dL_law_1544 dL_law_1545 (by decide) (by omega) hL ?_
        refine l_rd (q := 3) (x := xs (i + 3)) rfl dL_law_1546 dL_law_1547 dL_law_1549 dL_law_1550 dL_law_1551 (by decide) (by omega) hL ?_
        refine c_VI dL_law_1552 (mm_tempIf_2 hn hm hg.1 (by omega) _ _ _ (rk_of hm h1) (fun z => h3 z.1)) lk_L_238 rfl (isO_MO _ _ _) rfl (ltS (by omega)) ?_ (hR := (fitL (by decide) (by decide) (by omega) (by omega)))
        exact l_tailE (j := 2) dL_law_1555 dL_law_1557 dL_law_1558 dL_law_1561 dL_law_1563 dL_law_1568 (o2 := 15) dL_law_1570 dL_law_1585 (by decide) (by omega) (by decide) (by decide) (th_0 _ _) (by omega) (by omega) (hQ _ _ _ _ _ _ _ _ _ (by omega) (by omega) (by omega) (by omega) ((hI.thI 2).mono (by omega) (Nat.le_refl _) hcb))
    · skip
      refine wa_aload_n dL_law_1508 rfl ?_
      refine l_rd (q := 1) (x := xs (i + 1)) rfl dL_law_1509 dL_law_1510 dL_law_1512 dL_law_1513 dL_law_1514 (by decide) (by omega) hL ?_
      refine l_rd (q := 2) (x := xs (i + 2)) rfl dL_law_1515 dL_law_1516 dL_law_1518 dL_law_1519 dL_law_1520 (by decide) (by omega) hL ?_
      refine l_rd (q := 3) (x := xs (i + 3)) rfl dL_law_1521 dL_law_1522 dL_law_1524 dL_law_1525 dL_law_1526 (by decide) (by omega) hL ?_
      refine wa_aload_n dL_law_1527 rfl ?_
      refine wa_callW (As := [.ref 0, .int (xs (i + 1)), .int (xs (i + 2)), .int (xs (i + 3)), .ref 277]) dL_law_1528 lk_L_235 (wl_tempIf_2 hn (vr_tempIf_2 hn hh hg _ _ _ h1 h2)) rfl (by exact Nat.le_of_ble_eq_true rfl) (fitL (by decide) (by decide) (by omega) (by omega)) (by exact Nat.le_of_ble_eq_true rfl) (fun ro n' h' q _ => ?_) (fun E n' h' q _ => by cases q.1)
      obtain ⟨q1, q2, q3⟩ := q
      rw [q2, q3]
      cases q1
      refine wa_istore dL_law_1531 rfl ?_
      refine wa_aload_n dL_law_1533 rfl ?_
      refine l_rd (q := 1) (x := xs (i + 1)) rfl dL_law_1534 dL_law_1535 dL_law_1537 dL_law_1538 dL_law_1539 (by decide) (by omega) hL ?_
      refine l_rd (q := 2) (x := xs (i + 2)) rfl dL_law_1540 dL_law_1541 dL_law_1543 dL_law_1544 dL_law_1545 (by decide) (by omega) hL ?_
      refine l_rd (q := 3) (x := xs (i + 3)) rfl dL_law_1546 dL_law_1547 dL_law_1549 dL_law_1550 dL_law_1551 (by decide) (by omega) hL ?_
      refine c_VI dL_law_1552 (mm_tempIf_2 hn hm hg.1 (by omega) _ _ _ (rk_of hm h1) (fun z => h2 z.2)) lk_L_238 rfl (isO_MO _ _ _) rfl (ltS (by omega)) ?_ (hR := (fitL (by decide) (by decide) (by omega) (by omega)))
      exact l_tailE (j := 2) dL_law_1555 dL_law_1557 dL_law_1558 dL_law_1561 dL_law_1563 dL_law_1568 (o2 := 15) dL_law_1570 dL_law_1585 (by decide) (by omega) (by decide) (by decide) (th_0 _ _) (by omega) (by omega) (hQ _ _ _ _ _ _ _ _ _ (by omega) (by omega) (by omega) (by omega) ((hI.thI 2).mono (by omega) (Nat.le_refl _) hcb))
  · skip
    refine wa_aload_n dL_law_1508 rfl ?_
    refine l_rd (q := 1) (x := xs (i + 1)) rfl dL_law_1509 dL_law_1510 dL_law_1512 dL_law_1513 dL_law_1514 (by decide) (by omega) hL ?_
    refine l_rd (q := 2) (x := xs (i + 2)) rfl dL_law_1515 dL_law_1516 dL_law_1518 dL_law_1519 dL_law_1520 (by decide) (by omega) hL ?_
    refine l_rd (q := 3) (x := xs (i + 3)) rfl dL_law_1521 dL_law_1522 dL_law_1524 dL_law_1525 dL_law_1526 (by decide) (by omega) hL ?_
    refine wa_aload_n dL_law_1527 rfl ?_
    refine wa_callW (As := [.ref 0, .int (xs (i + 1)), .int (xs (i + 2)), .int (xs (i + 3)), .ref 277]) dL_law_1528 lk_L_235 (wl_tempIf_1 hn (vr_tempIf_1 hn hh hg _ _ _ h1)) rfl (by exact Nat.le_of_ble_eq_true rfl) (fitL (by decide) (by decide) (by omega) (by omega)) (by exact Nat.le_of_ble_eq_true rfl) (fun ro n' h' q _ => ?_) (fun E n' h' q _ => by cases q.1)
    obtain ⟨q1, q2, q3⟩ := q
    rw [q2, q3]
    cases q1
    refine wa_istore dL_law_1531 rfl ?_
    refine wa_aload_n dL_law_1533 rfl ?_
    refine l_rd (q := 1) (x := xs (i + 1)) rfl dL_law_1534 dL_law_1535 dL_law_1537 dL_law_1538 dL_law_1539 (by decide) (by omega) hL ?_
    refine l_rd (q := 2) (x := xs (i + 2)) rfl dL_law_1540 dL_law_1541 dL_law_1543 dL_law_1544 dL_law_1545 (by decide) (by omega) hL ?_
    refine l_rd (q := 3) (x := xs (i + 3)) rfl dL_law_1546 dL_law_1547 dL_law_1549 dL_law_1550 dL_law_1551 (by decide) (by omega) hL ?_
    refine c_VI dL_law_1552 (mm_tempIf_1 hn hm hg.1 (by omega) _ _ _ (rk_no hm h1)) lk_L_238 rfl (isO_MO _ _ _) rfl (ltS (by omega)) ?_ (hR := (fitL (by decide) (by decide) (by omega) (by omega)))
    exact l_tailE (j := 1) dL_law_1555 dL_law_1557 dL_law_1558 dL_law_1561 dL_law_1563 dL_law_1568 (o2 := 15) dL_law_1570 dL_law_1585 (by decide) (by omega) (by decide) (by decide) (th_0 _ _) (by omega) (by omega) (hQ _ _ _ _ _ _ _ _ _ (by omega) (by omega) (by omega) (by omega) ((hI.thI 1).mono (by omega) (Nat.le_refl _) hcb))
