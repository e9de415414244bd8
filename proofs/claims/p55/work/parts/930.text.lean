/-! THE LAW: load, its text. Written by program (wip/p55/gen/m930.py) but for the heads. -/
theorem stx_k {n j : Nat} {S : SS} (hj : j < 56) (hl : (ab_ks j).length ≤ 16) (hb : ∀ i, i < (ab_ks j).length → 0 ≤ ((ab_ks j).getD i 0).toInt ∧ ((ab_ks j).getD i 0).toInt < 128) : STX n S (ab_CB + 2 * j) (ab_ks j).length (fun i => (ab_ks j).getD i 0) := ⟨hl, hb, j, hj, rfl, rfl, rfl⟩
theorem lx_k (j : Nat) : (ab_ks j).length = (ab_ks j).length ∧ ∀ i c, (ab_ks j)[i]? = some c → (ab_ks j).getD i 0 = c := ⟨rfl, fun i c h => by rw [List.getD_eq_getElem?_getD, h]; rfl⟩
theorem wx_k {Xx : ab_X} {own : String} {cc : ByteArray} {nL : Nat} {hh : List (Nat × Nat × Nat × Nat)} {R : Room} {Q : ab_Q} {k k' z z' pc : Nat} {ls : List (Option Value)} {st : List Value} {n : Nat} {h : ab_H} (e1 : k' = k) (e2 : z' = z) (hw : WX Xx own cc nL hh R Q k' z' pc ls st n h) : WX Xx own cc nL hh R Q k z pc ls st n h := by
  subst e1
  subst e2
  exact hw
theorem WB.ff {n0 n k z j : Nat} {S0 S : SS} {f : Nat → Int32} {l : List Int32} (h : WB n0 S0 n S j f l k z) : FRb n0 S0 S := h.2.2.1
theorem dec_3 {a : Nat} (h : a ≤ 999) : (decI (nI a)).length ≤ 3 := by
  rw [decI_nn (by omega), decN_len]
  have q := (dk_ok (B := 10) (by decide) a).1
  rcases q with q | q
  · have : dk 10 a < 3 := (Nat.pow_lt_pow_iff_right (a := 10) (by decide)).mp (Nat.lt_of_le_of_lt q (show a < 10 ^ 3 by omega))
    omega
  · omega
theorem nI_abs {a : Nat} (h : a ≤ 999) : (nI a).toInt.natAbs < 100000000 := by
  rw [nI_toInt (by omega)]
  omega
theorem x_ok (L : Nat) (xs : Nat → Int32) : (x_out (dv L xs)).toInt.natAbs < 100000000 ∧ (decI (x_out (dv L xs))).length ≤ 4 := by
  rcases x_cases (v := dv L xs) (fun k m hm => dv_lt k m hm) with ⟨a, ha, e⟩ | ⟨a, h0, ha, e⟩
  · rw [e]
    exact ⟨nI_abs (by omega), Nat.le_succ_of_le (dec_3 (by omega))⟩
  · rw [e]
    refine ⟨by rw [neg_nI (by omega)]; omega, ?_⟩
    have q := dec_3 (a := a) (by omega)
    rw [decI_nn (by omega)] at q
    rw [decI_neg h0 (by omega), List.length_cons]
    omega
theorem let_by : ∀ r, r < 3 → 0 ≤ (nI (97 + r)).toInt ∧ (nI (97 + r)).toInt < 128 := by decide
abbrev LLs (L : Nat) (xs : Nat → Int32) (e5 e6 e7 : Option Value) : List (Option Value) := [some (.ref 0), some (.ref (ab_CB + 500000)), some (.int (nI (1 + dv L xs 0 3))), some (.ref 267), some (.int (x_out (dv L xs))), e5, e6, e7]
theorem kl_2 : (ab_ks 2).length = 8 := by decide +kernel
theorem ko_2 {n : Nat} {S : SS} : STX n S (ab_CB + 2 * 2) (ab_ks 2).length (fun i => (ab_ks 2).getD i 0) := stx_k (by decide) (by decide +kernel) (by decide +kernel)
theorem kl_3 : (ab_ks 3).length = 1 := by decide +kernel
theorem ko_3 {n : Nat} {S : SS} : STX n S (ab_CB + 2 * 3) (ab_ks 3).length (fun i => (ab_ks 3).getD i 0) := stx_k (by decide) (by decide +kernel) (by decide +kernel)
theorem kl_4 : (ab_ks 4).length = 7 := by decide +kernel
theorem ko_4 {n : Nat} {S : SS} : STX n S (ab_CB + 2 * 4) (ab_ks 4).length (fun i => (ab_ks 4).getD i 0) := stx_k (by decide) (by decide +kernel) (by decide +kernel)
theorem kl_5 : (ab_ks 5).length = 6 := by decide +kernel
theorem ko_5 {n : Nat} {S : SS} : STX n S (ab_CB + 2 * 5) (ab_ks 5).length (fun i => (ab_ks 5).getD i 0) := stx_k (by decide) (by decide +kernel) (by decide +kernel)
theorem kl_6 : (ab_ks 6).length = 5 := by decide +kernel
theorem ko_6 {n : Nat} {S : SS} : STX n S (ab_CB + 2 * 6) (ab_ks 6).length (fun i => (ab_ks 6).getD i 0) := stx_k (by decide) (by decide +kernel) (by decide +kernel)
theorem kl_7 : (ab_ks 7).length = 8 := by decide +kernel
theorem ko_7 {n : Nat} {S : SS} : STX n S (ab_CB + 2 * 7) (ab_ks 7).length (fun i => (ab_ks 7).getD i 0) := stx_k (by decide) (by decide +kernel) (by decide +kernel)
theorem kl_11 : (ab_ks 11).length = 1 := by decide +kernel
theorem ko_11 {n : Nat} {S : SS} : STX n S (ab_CB + 2 * 11) (ab_ks 11).length (fun i => (ab_ks 11).getD i 0) := stx_k (by decide) (by decide +kernel) (by decide +kernel)
theorem kl_15 : (ab_ks 15).length = 9 := by decide +kernel
theorem ko_15 {n : Nat} {S : SS} : STX n S (ab_CB + 2 * 15) (ab_ks 15).length (fun i => (ab_ks 15).getD i 0) := stx_k (by decide) (by decide +kernel) (by decide +kernel)
theorem kl_16 : (ab_ks 16).length = 6 := by decide +kernel
theorem ko_16 {n : Nat} {S : SS} : STX n S (ab_CB + 2 * 16) (ab_ks 16).length (fun i => (ab_ks 16).getD i 0) := stx_k (by decide) (by decide +kernel) (by decide +kernel)
theorem kl_17 : (ab_ks 17).length = 6 := by decide +kernel
theorem ko_17 {n : Nat} {S : SS} : STX n S (ab_CB + 2 * 17) (ab_ks 17).length (fun i => (ab_ks 17).getD i 0) := stx_k (by decide) (by decide +kernel) (by decide +kernel)
theorem kl_18 : (ab_ks 18).length = 7 := by decide +kernel
theorem ko_18 {n : Nat} {S : SS} : STX n S (ab_CB + 2 * 18) (ab_ks 18).length (fun i => (ab_ks 18).getD i 0) := stx_k (by decide) (by decide +kernel) (by decide +kernel)
theorem kl_19 : (ab_ks 19).length = 6 := by decide +kernel
theorem ko_19 {n : Nat} {S : SS} : STX n S (ab_CB + 2 * 19) (ab_ks 19).length (fun i => (ab_ks 19).getD i 0) := stx_k (by decide) (by decide +kernel) (by decide +kernel)
theorem kl_20 : (ab_ks 20).length = 7 := by decide +kernel
theorem ko_20 {n : Nat} {S : SS} : STX n S (ab_CB + 2 * 20) (ab_ks 20).length (fun i => (ab_ks 20).getD i 0) := stx_k (by decide) (by decide +kernel) (by decide +kernel)
theorem kl_21 : (ab_ks 21).length = 9 := by decide +kernel
theorem ko_21 {n : Nat} {S : SS} : STX n S (ab_CB + 2 * 21) (ab_ks 21).length (fun i => (ab_ks 21).getD i 0) := stx_k (by decide) (by decide +kernel) (by decide +kernel)
theorem kl_22 : (ab_ks 22).length = 11 := by decide +kernel
theorem ko_22 {n : Nat} {S : SS} : STX n S (ab_CB + 2 * 22) (ab_ks 22).length (fun i => (ab_ks 22).getD i 0) := stx_k (by decide) (by decide +kernel) (by decide +kernel)
theorem kl_23 : (ab_ks 23).length = 1 := by decide +kernel
theorem ko_23 {n : Nat} {S : SS} : STX n S (ab_CB + 2 * 23) (ab_ks 23).length (fun i => (ab_ks 23).getD i 0) := stx_k (by decide) (by decide +kernel) (by decide +kernel)
theorem kl_24 : (ab_ks 24).length = 1 := by decide +kernel
theorem ko_24 {n : Nat} {S : SS} : STX n S (ab_CB + 2 * 24) (ab_ks 24).length (fun i => (ab_ks 24).getD i 0) := stx_k (by decide) (by decide +kernel) (by decide +kernel)
theorem kl_25 : (ab_ks 25).length = 5 := by decide +kernel
theorem ko_25 {n : Nat} {S : SS} : STX n S (ab_CB + 2 * 25) (ab_ks 25).length (fun i => (ab_ks 25).getD i 0) := stx_k (by decide) (by decide +kernel) (by decide +kernel)
theorem kl_26 : (ab_ks 26).length = 2 := by decide +kernel
theorem ko_26 {n : Nat} {S : SS} : STX n S (ab_CB + 2 * 26) (ab_ks 26).length (fun i => (ab_ks 26).getD i 0) := stx_k (by decide) (by decide +kernel) (by decide +kernel)
theorem kl_27 : (ab_ks 27).length = 6 := by decide +kernel
theorem ko_27 {n : Nat} {S : SS} : STX n S (ab_CB + 2 * 27) (ab_ks 27).length (fun i => (ab_ks 27).getD i 0) := stx_k (by decide) (by decide +kernel) (by decide +kernel)
theorem kl_28 : (ab_ks 28).length = 4 := by decide +kernel
theorem ko_28 {n : Nat} {S : SS} : STX n S (ab_CB + 2 * 28) (ab_ks 28).length (fun i => (ab_ks 28).getD i 0) := stx_k (by decide) (by decide +kernel) (by decide +kernel)
theorem ld_out {Q : ab_Q} {n0 n j k z L MC MS K0 Z0 : Nat} {xs : Nat → Int32} {S0 S : SS} {f : Nat → Int32} {l : List Int32} {e5 e6 e7 : Option Value} (hL : L < 2 ^ 31) (h0 : 269 ≤ n0) (h7 : n0 + 7 ≤ ab_CB) (hK : K0 + 5 ≤ MC) (hZ : Z0 + 1200 ≤ MS) (hw : WB n0 S0 n S j f l k z) (hl : l.length ≤ 487) (hQ : ∀ n' S' j' f' k' z', n ≤ n' → WB n0 S0 n' S' j' f' (l ++ s_out (dv L xs)) k' z' → WX (ab_XS L xs) RL cL_load 8 [] (ab_rm 11 MC MS) Q (K0 + k') (Z0 + z') 73 (LLs L xs e5 e6 e7) [] n' (Hp S')) : WX (ab_XS L xs) RL cL_load 8 [] (ab_rm 11 MC MS) Q (K0 + k) (Z0 + z) 47 (LLs L xs e5 e6 e7) [] n (Hp S) := by
  obtain ⟨hn, hm, gk, gz⟩ := hw.lt h0 h7
  refine wa_aload_n dL_load_47 rfl ?_
  refine wa_iconst (x := 1) dL_load_48 (by decide) ?_
  refine wa_iconst (x := 3) dL_load_49 (by decide) ?_
  refine x_SI (As := [.ref (ab_CB + 500000), .int (nI (1)), .int (nI (3))]) dL_load_50 (ab_XS_M _ _) (yl_draw (k := 1) (m := 3) hL (by decide) (by decide) (by decide)) lk_L_40 rfl ?_
  have q50 := dv_lt (L := L) (xs := xs) (1) (3) (by decide)
  by_cases hc : 0 < dv L xs 1 3
  · refine wa_if_le 73 dL_load_53 rfl (fun c => absurd (nI_le0 (by omega) c) (by omega)) (fun c => ?_)
    refine wa_aload_n dL_load_56 rfl ?_
    refine wa_ldcS (j := 2) dL_load_57 rfl ?_
    refine wx_k (k' := K0 + k) (z' := Z0 + z) rfl rfl ?_
    refine ap_S (K0 := K0) (Z0 := Z0) dL_load_59 lk_L_49 hn hw hm (by decide) hK hZ ko_2 (lx_k 2) (by simp only [List.length_append, List.length_cons, List.length_nil, kl_2, kl_3, kl_4, kl_5, kl_6, kl_7, kl_11, kl_15, kl_16, kl_17, kl_18, kl_19, kl_20, kl_21, kl_22, kl_23, kl_24, kl_25, kl_26, kl_27, kl_28]; omega) (by exact Nat.le_of_ble_eq_true rfl) (fun n1 S1 j1 f1 k1 z1 b1 w1 => ?_)
    obtain ⟨hn1, hm1, gk1, gz1⟩ := w1.lt h0 h7
    refine wa_iload dL_load_62 rfl ?_
    have t64 := x_ok L xs
    refine wx_k (k' := K0 + k1) (z' := Z0 + z1) rfl rfl ?_
    refine ap_I (K0 := K0) (Z0 := Z0) dL_load_64 lk_L_52 hn1 w1 hm1 (by decide) hK hZ (x_ok L xs).1 (by simp only [List.length_append, List.length_cons, List.length_nil, kl_2, kl_3, kl_4, kl_5, kl_6, kl_7, kl_11, kl_15, kl_16, kl_17, kl_18, kl_19, kl_20, kl_21, kl_22, kl_23, kl_24, kl_25, kl_26, kl_27, kl_28]; omega) (by exact Nat.le_of_ble_eq_true rfl) (fun n2 S2 j2 f2 k2 z2 b2 w2 => ?_)
    obtain ⟨hn2, hm2, gk2, gz2⟩ := w2.lt h0 h7
    refine wa_ldcS (j := 3) dL_load_67 rfl ?_
    refine wx_k (k' := K0 + k2) (z' := Z0 + z2) rfl rfl ?_
    refine ap_S (K0 := K0) (Z0 := Z0) dL_load_69 lk_L_49 hn2 w2 hm2 (by decide) hK hZ ko_3 (lx_k 3) (by simp only [List.length_append, List.length_cons, List.length_nil, kl_2, kl_3, kl_4, kl_5, kl_6, kl_7, kl_11, kl_15, kl_16, kl_17, kl_18, kl_19, kl_20, kl_21, kl_22, kl_23, kl_24, kl_25, kl_26, kl_27, kl_28]; omega) (by exact Nat.le_of_ble_eq_true rfl) (fun n3 S3 j3 f3 k3 z3 b3 w3 => ?_)
    obtain ⟨hn3, hm3, gk3, gz3⟩ := w3.lt h0 h7
    refine wa_pop dL_load_72 rfl ?_
    exact hQ _ _ _ _ _ _ (by omega) (by rw [show l ++ s_out (dv L xs) = l ++ ab_ks 2 ++ decI (x_out (dv L xs)) ++ ab_ks 3 from by unfold s_out; rw [if_pos hc]; simp only [List.append_assoc]]; exact w3)
  · refine wa_if_le 73 dL_load_53 rfl (fun c => ?_) (fun c => absurd (nI_leN (b := 0) (show dv L xs 1 3 ≤ 0 by omega) (by decide)) c)
    exact hQ _ _ _ _ _ _ (Nat.le_refl _) (by rw [show l ++ s_out (dv L xs) = l from by unfold s_out; rw [if_neg hc, List.append_nil]]; exact hw)
theorem ld_win {Q : ab_Q} {n0 n j k z L MC MS K0 Z0 : Nat} {xs : Nat → Int32} {S0 S : SS} {f : Nat → Int32} {l : List Int32} {e5 e6 e7 : Option Value} (hL : L < 2 ^ 31) (h0 : 269 ≤ n0) (h7 : n0 + 7 ≤ ab_CB) (hK : K0 + 5 ≤ MC) (hZ : Z0 + 1200 ≤ MS) (hw : WB n0 S0 n S j f l k z) (hl : l.length ≤ 480) (hQ : ∀ n' S' j' f' k' z', n ≤ n' → WB n0 S0 n' S' j' f' (l ++ s_win (dv L xs)) k' z' → WX (ab_XS L xs) RL cL_load 8 [] (ab_rm 11 MC MS) Q (K0 + k') (Z0 + z') 123 (LLs L xs e5 e6 e7) [] n' (Hp S')) : WX (ab_XS L xs) RL cL_load 8 [] (ab_rm 11 MC MS) Q (K0 + k) (Z0 + z) 73 (LLs L xs e5 e6 e7) [] n (Hp S) := by
  obtain ⟨hn, hm, gk, gz⟩ := hw.lt h0 h7
  refine wa_aload_n dL_load_73 rfl ?_
  refine wa_iconst (x := 4) dL_load_74 (by decide) ?_
  refine wa_iconst (x := 2) dL_load_75 (by decide) ?_
  refine x_SI (As := [.ref (ab_CB + 500000), .int (nI (4)), .int (nI (2))]) dL_load_76 (ab_XS_M _ _) (yl_draw (k := 4) (m := 2) hL (by decide) (by decide) (by decide)) lk_L_40 rfl ?_
  have q76 := dv_lt (L := L) (xs := xs) (4) (2) (by decide)
  by_cases hc : dv L xs 4 2 = 0
  · refine wa_if_ne 123 dL_load_79 rfl (fun c => absurd (show nI (dv L xs 4 2) = 0 by rw [hc]; rfl) c) (fun c => ?_)
    refine wa_aload_n dL_load_82 rfl ?_
    refine wa_ldcS (j := 4) dL_load_83 rfl ?_
    refine wx_k (k' := K0 + k) (z' := Z0 + z) rfl rfl ?_
    refine ap_S (K0 := K0) (Z0 := Z0) dL_load_85 lk_L_49 hn hw hm (by decide) hK hZ ko_4 (lx_k 4) (by simp only [List.length_append, List.length_cons, List.length_nil, kl_2, kl_3, kl_4, kl_5, kl_6, kl_7, kl_11, kl_15, kl_16, kl_17, kl_18, kl_19, kl_20, kl_21, kl_22, kl_23, kl_24, kl_25, kl_26, kl_27, kl_28]; omega) (by exact Nat.le_of_ble_eq_true rfl) (fun n1 S1 j1 f1 k1 z1 b1 w1 => ?_)
    obtain ⟨hn1, hm1, gk1, gz1⟩ := w1.lt h0 h7
    refine wa_iconst (x := 1) dL_load_88 (by decide) ?_
    refine wa_aload_n dL_load_89 rfl ?_
    refine wa_iconst (x := 5) dL_load_90 (by decide) ?_
    refine wa_bipush (x := 12) dL_load_91 (by decide) ?_
    refine x_SI (As := [.ref (ab_CB + 500000), .int (nI (5)), .int (nI (12))]) dL_load_93 (ab_XS_M _ _) (yl_draw (k := 5) (m := 12) hL (by decide) (by decide) (by decide)) lk_L_40 rfl ?_
    have q93 := dv_lt (L := L) (xs := xs) (5) (12) (by decide)
    refine wa_iadd dL_load_96 ?_
    rw [show (1 : Int32) + nI (dv L xs 5 12) = nI (1 + dv L xs 5 12) from nI_addS 1 _]
    have t97 := dec_3 (a := 1 + dv L xs 5 12) (by omega)
    refine wx_k (k' := K0 + k1) (z' := Z0 + z1) rfl rfl ?_
    refine ap_I (K0 := K0) (Z0 := Z0) dL_load_97 lk_L_52 hn1 w1 hm1 (by decide) hK hZ (nI_abs (by omega)) (by simp only [List.length_append, List.length_cons, List.length_nil, kl_2, kl_3, kl_4, kl_5, kl_6, kl_7, kl_11, kl_15, kl_16, kl_17, kl_18, kl_19, kl_20, kl_21, kl_22, kl_23, kl_24, kl_25, kl_26, kl_27, kl_28]; omega) (by exact Nat.le_of_ble_eq_true rfl) (fun n2 S2 j2 f2 k2 z2 b2 w2 => ?_)
    obtain ⟨hn2, hm2, gk2, gz2⟩ := w2.lt h0 h7
    refine wa_ldcS (j := 5) dL_load_100 rfl ?_
    refine wx_k (k' := K0 + k2) (z' := Z0 + z2) rfl rfl ?_
    refine ap_S (K0 := K0) (Z0 := Z0) dL_load_102 lk_L_49 hn2 w2 hm2 (by decide) hK hZ ko_5 (lx_k 5) (by simp only [List.length_append, List.length_cons, List.length_nil, kl_2, kl_3, kl_4, kl_5, kl_6, kl_7, kl_11, kl_15, kl_16, kl_17, kl_18, kl_19, kl_20, kl_21, kl_22, kl_23, kl_24, kl_25, kl_26, kl_27, kl_28]; omega) (by exact Nat.le_of_ble_eq_true rfl) (fun n3 S3 j3 f3 k3 z3 b3 w3 => ?_)
    obtain ⟨hn3, hm3, gk3, gz3⟩ := w3.lt h0 h7
    refine wa_iconst (x := 1) dL_load_105 (by decide) ?_
    refine wa_aload_n dL_load_106 rfl ?_
    refine wa_bipush (x := 6) dL_load_107 (by decide) ?_
    refine wa_iconst (x := 5) dL_load_109 (by decide) ?_
    refine x_SI (As := [.ref (ab_CB + 500000), .int (nI (6)), .int (nI (5))]) dL_load_110 (ab_XS_M _ _) (yl_draw (k := 6) (m := 5) hL (by decide) (by decide) (by decide)) lk_L_40 rfl ?_
    have q110 := dv_lt (L := L) (xs := xs) (6) (5) (by decide)
    refine wa_iadd dL_load_113 ?_
    rw [show (1 : Int32) + nI (dv L xs 6 5) = nI (1 + dv L xs 6 5) from nI_addS 1 _]
    have t114 := dec_3 (a := 1 + dv L xs 6 5) (by omega)
    refine wx_k (k' := K0 + k3) (z' := Z0 + z3) rfl rfl ?_
    refine ap_I (K0 := K0) (Z0 := Z0) dL_load_114 lk_L_52 hn3 w3 hm3 (by decide) hK hZ (nI_abs (by omega)) (by simp only [List.length_append, List.length_cons, List.length_nil, kl_2, kl_3, kl_4, kl_5, kl_6, kl_7, kl_11, kl_15, kl_16, kl_17, kl_18, kl_19, kl_20, kl_21, kl_22, kl_23, kl_24, kl_25, kl_26, kl_27, kl_28]; omega) (by exact Nat.le_of_ble_eq_true rfl) (fun n4 S4 j4 f4 k4 z4 b4 w4 => ?_)
    obtain ⟨hn4, hm4, gk4, gz4⟩ := w4.lt h0 h7
    refine wa_ldcS (j := 3) dL_load_117 rfl ?_
    refine wx_k (k' := K0 + k4) (z' := Z0 + z4) rfl rfl ?_
    refine ap_S (K0 := K0) (Z0 := Z0) dL_load_119 lk_L_49 hn4 w4 hm4 (by decide) hK hZ ko_3 (lx_k 3) (by simp only [List.length_append, List.length_cons, List.length_nil, kl_2, kl_3, kl_4, kl_5, kl_6, kl_7, kl_11, kl_15, kl_16, kl_17, kl_18, kl_19, kl_20, kl_21, kl_22, kl_23, kl_24, kl_25, kl_26, kl_27, kl_28]; omega) (by exact Nat.le_of_ble_eq_true rfl) (fun n5 S5 j5 f5 k5 z5 b5 w5 => ?_)
    obtain ⟨hn5, hm5, gk5, gz5⟩ := w5.lt h0 h7
    refine wa_pop dL_load_122 rfl ?_
    exact hQ _ _ _ _ _ _ (by omega) (by rw [show l ++ s_win (dv L xs) = l ++ ab_ks 4 ++ decI (nI (1 + dv L xs 5 12)) ++ ab_ks 5 ++ decI (nI (1 + dv L xs 6 5)) ++ ab_ks 3 from by unfold s_win; rw [if_pos hc]; simp only [List.append_assoc]]; exact w5)
  · refine wa_if_ne 123 dL_load_79 rfl (fun c => ?_) (fun c => absurd c (nI_ne0 (Nat.pos_of_ne_zero hc) (by omega)))
    exact hQ _ _ _ _ _ _ (Nat.le_refl _) (by rw [show l ++ s_win (dv L xs) = l from by unfold s_win; rw [if_neg hc, List.append_nil]]; exact hw)
theorem ld_bak {Q : ab_Q} {n0 n j k z L MC MS K0 Z0 : Nat} {xs : Nat → Int32} {S0 S : SS} {f : Nat → Int32} {l : List Int32} {e5 e6 e7 : Option Value} (hL : L < 2 ^ 31) (h0 : 269 ≤ n0) (h7 : n0 + 7 ≤ ab_CB) (hK : K0 + 5 ≤ MC) (hZ : Z0 + 1200 ≤ MS) (hw : WB n0 S0 n S j f l k z) (hl : l.length ≤ 491) (hQ : ∀ n' S' j' f' k' z', n ≤ n' → WB n0 S0 n' S' j' f' (l ++ s_bak (dv L xs)) k' z' → WX (ab_XS L xs) RL cL_load 8 [] (ab_rm 11 MC MS) Q (K0 + k') (Z0 + z') 156 (LLs L xs e5 e6 e7) [] n' (Hp S')) : WX (ab_XS L xs) RL cL_load 8 [] (ab_rm 11 MC MS) Q (K0 + k) (Z0 + z) 123 (LLs L xs e5 e6 e7) [] n (Hp S) := by
  obtain ⟨hn, hm, gk, gz⟩ := hw.lt h0 h7
  refine wa_aload_n dL_load_123 rfl ?_
  refine wa_bipush (x := 7) dL_load_124 (by decide) ?_
  refine wa_iconst (x := 2) dL_load_126 (by decide) ?_
  refine x_SI (As := [.ref (ab_CB + 500000), .int (nI (7)), .int (nI (2))]) dL_load_127 (ab_XS_M _ _) (yl_draw (k := 7) (m := 2) hL (by decide) (by decide) (by decide)) lk_L_40 rfl ?_
  have q127 := dv_lt (L := L) (xs := xs) (7) (2) (by decide)
  by_cases hc : dv L xs 7 2 = 0
  · refine wa_if_ne 156 dL_load_130 rfl (fun c => absurd (show nI (dv L xs 7 2) = 0 by rw [hc]; rfl) c) (fun c => ?_)
    refine wa_aload_n dL_load_133 rfl ?_
    refine wa_ldcS (j := 6) dL_load_134 rfl ?_
    refine wx_k (k' := K0 + k) (z' := Z0 + z) rfl rfl ?_
    refine ap_S (K0 := K0) (Z0 := Z0) dL_load_136 lk_L_49 hn hw hm (by decide) hK hZ ko_6 (lx_k 6) (by simp only [List.length_append, List.length_cons, List.length_nil, kl_2, kl_3, kl_4, kl_5, kl_6, kl_7, kl_11, kl_15, kl_16, kl_17, kl_18, kl_19, kl_20, kl_21, kl_22, kl_23, kl_24, kl_25, kl_26, kl_27, kl_28]; omega) (by exact Nat.le_of_ble_eq_true rfl) (fun n1 S1 j1 f1 k1 z1 b1 w1 => ?_)
    obtain ⟨hn1, hm1, gk1, gz1⟩ := w1.lt h0 h7
    refine wa_aload_n dL_load_139 rfl ?_
    refine wa_bipush (x := 8) dL_load_140 (by decide) ?_
    refine wa_bipush (x := 80) dL_load_142 (by decide) ?_
    refine x_SI (As := [.ref (ab_CB + 500000), .int (nI (8)), .int (nI (80))]) dL_load_144 (ab_XS_M _ _) (yl_draw (k := 8) (m := 80) hL (by decide) (by decide) (by decide)) lk_L_40 rfl ?_
    have q144 := dv_lt (L := L) (xs := xs) (8) (80) (by decide)
    have t147 := dec_3 (a := dv L xs 8 80) (by omega)
    refine wx_k (k' := K0 + k1) (z' := Z0 + z1) rfl rfl ?_
    refine ap_I (K0 := K0) (Z0 := Z0) dL_load_147 lk_L_52 hn1 w1 hm1 (by decide) hK hZ (nI_abs (by omega)) (by simp only [List.length_append, List.length_cons, List.length_nil, kl_2, kl_3, kl_4, kl_5, kl_6, kl_7, kl_11, kl_15, kl_16, kl_17, kl_18, kl_19, kl_20, kl_21, kl_22, kl_23, kl_24, kl_25, kl_26, kl_27, kl_28]; omega) (by exact Nat.le_of_ble_eq_true rfl) (fun n2 S2 j2 f2 k2 z2 b2 w2 => ?_)
    obtain ⟨hn2, hm2, gk2, gz2⟩ := w2.lt h0 h7
    refine wa_ldcS (j := 3) dL_load_150 rfl ?_
    refine wx_k (k' := K0 + k2) (z' := Z0 + z2) rfl rfl ?_
    refine ap_S (K0 := K0) (Z0 := Z0) dL_load_152 lk_L_49 hn2 w2 hm2 (by decide) hK hZ ko_3 (lx_k 3) (by simp only [List.length_append, List.length_cons, List.length_nil, kl_2, kl_3, kl_4, kl_5, kl_6, kl_7, kl_11, kl_15, kl_16, kl_17, kl_18, kl_19, kl_20, kl_21, kl_22, kl_23, kl_24, kl_25, kl_26, kl_27, kl_28]; omega) (by exact Nat.le_of_ble_eq_true rfl) (fun n3 S3 j3 f3 k3 z3 b3 w3 => ?_)
    obtain ⟨hn3, hm3, gk3, gz3⟩ := w3.lt h0 h7
    refine wa_pop dL_load_155 rfl ?_
    exact hQ _ _ _ _ _ _ (by omega) (by rw [show l ++ s_bak (dv L xs) = l ++ ab_ks 6 ++ decI (nI (dv L xs 8 80)) ++ ab_ks 3 from by unfold s_bak; rw [if_pos hc]; simp only [List.append_assoc]]; exact w3)
  · refine wa_if_ne 156 dL_load_130 rfl (fun c => ?_) (fun c => absurd c (nI_ne0 (Nat.pos_of_ne_zero hc) (by omega)))
    exact hQ _ _ _ _ _ _ (Nat.le_refl _) (by rw [show l ++ s_bak (dv L xs) = l from by unfold s_bak; rw [if_neg hc, List.append_nil]]; exact hw)
theorem ld_ctl {Q : ab_Q} {n0 n j k z L MC MS K0 Z0 : Nat} {xs : Nat → Int32} {S0 S : SS} {f : Nat → Int32} {l : List Int32} {e5 e6 e7 : Option Value} (hL : L < 2 ^ 31) (h0 : 269 ≤ n0) (h7 : n0 + 7 ≤ ab_CB) (hK : K0 + 5 ≤ MC) (hZ : Z0 + 1200 ≤ MS) (hw : WB n0 S0 n S j f l k z) (hl : l.length ≤ 480) (hQ : ∀ n' S' j' f' k' z', n ≤ n' → WB n0 S0 n' S' j' f' (l ++ s_ctl (dv L xs)) k' z' → WX (ab_XS L xs) RL cL_load 8 [] (ab_rm 11 MC MS) Q (K0 + k') (Z0 + z') 225 (LLs L xs e5 e6 e7) [] n' (Hp S')) : WX (ab_XS L xs) RL cL_load 8 [] (ab_rm 11 MC MS) Q (K0 + k) (Z0 + z) 156 (LLs L xs e5 e6 e7) [] n (Hp S) := by
  obtain ⟨hn, hm, gk, gz⟩ := hw.lt h0 h7
  refine wa_aload_n dL_load_156 rfl ?_
  refine wa_bipush (x := 9) dL_load_157 (by decide) ?_
  refine wa_iconst (x := 2) dL_load_159 (by decide) ?_
  refine x_SI (As := [.ref (ab_CB + 500000), .int (nI (9)), .int (nI (2))]) dL_load_160 (ab_XS_M _ _) (yl_draw (k := 9) (m := 2) hL (by decide) (by decide) (by decide)) lk_L_40 rfl ?_
  have q160 := dv_lt (L := L) (xs := xs) (9) (2) (by decide)
  by_cases hc : dv L xs 9 2 = 0
  · refine wa_if_ne 225 dL_load_163 rfl (fun c => absurd (show nI (dv L xs 9 2) = 0 by rw [hc]; rfl) c) (fun c => ?_)
    refine wa_aload_n dL_load_166 rfl ?_
    refine wa_ldcS (j := 7) dL_load_167 rfl ?_
    refine wx_k (k' := K0 + k) (z' := Z0 + z) rfl rfl ?_
    refine ap_S (K0 := K0) (Z0 := Z0) dL_load_169 lk_L_49 hn hw hm (by decide) hK hZ ko_7 (lx_k 7) (by simp only [List.length_append, List.length_cons, List.length_nil, kl_2, kl_3, kl_4, kl_5, kl_6, kl_7, kl_11, kl_15, kl_16, kl_17, kl_18, kl_19, kl_20, kl_21, kl_22, kl_23, kl_24, kl_25, kl_26, kl_27, kl_28]; omega) (by exact Nat.le_of_ble_eq_true rfl) (fun n1 S1 j1 f1 k1 z1 b1 w1 => ?_)
    obtain ⟨hn1, hm1, gk1, gz1⟩ := w1.lt h0 h7
    refine wa_aload_n dL_load_172 rfl ?_
    refine wa_bipush (x := 10) dL_load_173 (by decide) ?_
    refine wa_bipush (x := 8) dL_load_175 (by decide) ?_
    refine x_SI (As := [.ref (ab_CB + 500000), .int (nI (10)), .int (nI (8))]) dL_load_177 (ab_XS_M _ _) (yl_draw (k := 10) (m := 8) hL (by decide) (by decide) (by decide)) lk_L_40 rfl ?_
    have q177 := dv_lt (L := L) (xs := xs) (10) (8) (by decide)
    have t180 := dec_3 (a := dv L xs 10 8) (by omega)
    refine wx_k (k' := K0 + k1) (z' := Z0 + z1) rfl rfl ?_
    refine ap_I (K0 := K0) (Z0 := Z0) dL_load_180 lk_L_52 hn1 w1 hm1 (by decide) hK hZ (nI_abs (by omega)) (by simp only [List.length_append, List.length_cons, List.length_nil, kl_2, kl_3, kl_4, kl_5, kl_6, kl_7, kl_11, kl_15, kl_16, kl_17, kl_18, kl_19, kl_20, kl_21, kl_22, kl_23, kl_24, kl_25, kl_26, kl_27, kl_28]; omega) (by exact Nat.le_of_ble_eq_true rfl) (fun n2 S2 j2 f2 k2 z2 b2 w2 => ?_)
    obtain ⟨hn2, hm2, gk2, gz2⟩ := w2.lt h0 h7
    refine wa_ldcS (j := 11) dL_load_183 rfl ?_
    refine wx_k (k' := K0 + k2) (z' := Z0 + z2) rfl rfl ?_
    refine ap_S (K0 := K0) (Z0 := Z0) dL_load_185 lk_L_49 hn2 w2 hm2 (by decide) hK hZ ko_11 (lx_k 11) (by simp only [List.length_append, List.length_cons, List.length_nil, kl_2, kl_3, kl_4, kl_5, kl_6, kl_7, kl_11, kl_15, kl_16, kl_17, kl_18, kl_19, kl_20, kl_21, kl_22, kl_23, kl_24, kl_25, kl_26, kl_27, kl_28]; omega) (by exact Nat.le_of_ble_eq_true rfl) (fun n3 S3 j3 f3 k3 z3 b3 w3 => ?_)
    obtain ⟨hn3, hm3, gk3, gz3⟩ := w3.lt h0 h7
    refine wa_iconst (x := 1) dL_load_188 (by decide) ?_
    refine wa_aload_n dL_load_189 rfl ?_
    refine wa_bipush (x := 11) dL_load_190 (by decide) ?_
    refine wa_bipush (x := 12) dL_load_192 (by decide) ?_
    refine x_SI (As := [.ref (ab_CB + 500000), .int (nI (11)), .int (nI (12))]) dL_load_194 (ab_XS_M _ _) (yl_draw (k := 11) (m := 12) hL (by decide) (by decide) (by decide)) lk_L_40 rfl ?_
    have q194 := dv_lt (L := L) (xs := xs) (11) (12) (by decide)
    refine wa_iadd dL_load_197 ?_
    rw [show (1 : Int32) + nI (dv L xs 11 12) = nI (1 + dv L xs 11 12) from nI_addS 1 _]
    have t198 := dec_3 (a := 1 + dv L xs 11 12) (by omega)
    refine wx_k (k' := K0 + k3) (z' := Z0 + z3) rfl rfl ?_
    refine ap_I (K0 := K0) (Z0 := Z0) dL_load_198 lk_L_52 hn3 w3 hm3 (by decide) hK hZ (nI_abs (by omega)) (by simp only [List.length_append, List.length_cons, List.length_nil, kl_2, kl_3, kl_4, kl_5, kl_6, kl_7, kl_11, kl_15, kl_16, kl_17, kl_18, kl_19, kl_20, kl_21, kl_22, kl_23, kl_24, kl_25, kl_26, kl_27, kl_28]; omega) (by exact Nat.le_of_ble_eq_true rfl) (fun n4 S4 j4 f4 k4 z4 b4 w4 => ?_)
    obtain ⟨hn4, hm4, gk4, gz4⟩ := w4.lt h0 h7
    refine wa_ldcS (j := 11) dL_load_201 rfl ?_
    refine wx_k (k' := K0 + k4) (z' := Z0 + z4) rfl rfl ?_
    refine ap_S (K0 := K0) (Z0 := Z0) dL_load_203 lk_L_49 hn4 w4 hm4 (by decide) hK hZ ko_11 (lx_k 11) (by simp only [List.length_append, List.length_cons, List.length_nil, kl_2, kl_3, kl_4, kl_5, kl_6, kl_7, kl_11, kl_15, kl_16, kl_17, kl_18, kl_19, kl_20, kl_21, kl_22, kl_23, kl_24, kl_25, kl_26, kl_27, kl_28]; omega) (by exact Nat.le_of_ble_eq_true rfl) (fun n5 S5 j5 f5 k5 z5 b5 w5 => ?_)
    obtain ⟨hn5, hm5, gk5, gz5⟩ := w5.lt h0 h7
    refine wa_iconst (x := 1) dL_load_206 (by decide) ?_
    refine wa_aload_n dL_load_207 rfl ?_
    refine wa_bipush (x := 12) dL_load_208 (by decide) ?_
    refine wa_bipush (x := 60) dL_load_210 (by decide) ?_
    refine x_SI (As := [.ref (ab_CB + 500000), .int (nI (12)), .int (nI (60))]) dL_load_212 (ab_XS_M _ _) (yl_draw (k := 12) (m := 60) hL (by decide) (by decide) (by decide)) lk_L_40 rfl ?_
    have q212 := dv_lt (L := L) (xs := xs) (12) (60) (by decide)
    refine wa_iadd dL_load_215 ?_
    rw [show (1 : Int32) + nI (dv L xs 12 60) = nI (1 + dv L xs 12 60) from nI_addS 1 _]
    have t216 := dec_3 (a := 1 + dv L xs 12 60) (by omega)
    refine wx_k (k' := K0 + k5) (z' := Z0 + z5) rfl rfl ?_
    refine ap_I (K0 := K0) (Z0 := Z0) dL_load_216 lk_L_52 hn5 w5 hm5 (by decide) hK hZ (nI_abs (by omega)) (by simp only [List.length_append, List.length_cons, List.length_nil, kl_2, kl_3, kl_4, kl_5, kl_6, kl_7, kl_11, kl_15, kl_16, kl_17, kl_18, kl_19, kl_20, kl_21, kl_22, kl_23, kl_24, kl_25, kl_26, kl_27, kl_28]; omega) (by exact Nat.le_of_ble_eq_true rfl) (fun n6 S6 j6 f6 k6 z6 b6 w6 => ?_)
    obtain ⟨hn6, hm6, gk6, gz6⟩ := w6.lt h0 h7
    refine wa_ldcS (j := 3) dL_load_219 rfl ?_
    refine wx_k (k' := K0 + k6) (z' := Z0 + z6) rfl rfl ?_
    refine ap_S (K0 := K0) (Z0 := Z0) dL_load_221 lk_L_49 hn6 w6 hm6 (by decide) hK hZ ko_3 (lx_k 3) (by simp only [List.length_append, List.length_cons, List.length_nil, kl_2, kl_3, kl_4, kl_5, kl_6, kl_7, kl_11, kl_15, kl_16, kl_17, kl_18, kl_19, kl_20, kl_21, kl_22, kl_23, kl_24, kl_25, kl_26, kl_27, kl_28]; omega) (by exact Nat.le_of_ble_eq_true rfl) (fun n7 S7 j7 f7 k7 z7 b7 w7 => ?_)
    obtain ⟨hn7, hm7, gk7, gz7⟩ := w7.lt h0 h7
    refine wa_pop dL_load_224 rfl ?_
    exact hQ _ _ _ _ _ _ (by omega) (by rw [show l ++ s_ctl (dv L xs) = l ++ ab_ks 7 ++ decI (nI (dv L xs 10 8)) ++ ab_ks 11 ++ decI (nI (1 + dv L xs 11 12)) ++ ab_ks 11 ++ decI (nI (1 + dv L xs 12 60)) ++ ab_ks 3 from by unfold s_ctl; rw [if_pos hc]; simp only [List.append_assoc]]; exact w7)
  · refine wa_if_ne 225 dL_load_163 rfl (fun c => ?_) (fun c => absurd c (nI_ne0 (Nat.pos_of_ne_zero hc) (by omega)))
    exact hQ _ _ _ _ _ _ (Nat.le_refl _) (by rw [show l ++ s_ctl (dv L xs) = l from by unfold s_ctl; rw [if_neg hc, List.append_nil]]; exact hw)
theorem ld_exe {Q : ab_Q} {n0 n j k z L MC MS K0 Z0 : Nat} {xs : Nat → Int32} {S0 S : SS} {f : Nat → Int32} {l : List Int32} {e6 e7 : Option Value} (hL : L < 2 ^ 31) (h0 : 269 ≤ n0) (h7 : n0 + 7 ≤ ab_CB) (hK : K0 + 5 ≤ MC) (hZ : Z0 + 1200 ≤ MS) (hw : WB n0 S0 n S j f l k z) (hl : l.length ≤ 487) (hQ : ∀ n' S' j' f' k' z', n ≤ n' → WB n0 S0 n' S' j' f' (l ++ s_exe (dv L xs)) k' z' → WX (ab_XS L xs) RL cL_load 8 [] (ab_rm 11 MC MS) Q (K0 + k') (Z0 + z') 262 (LLs L xs (some (.int (nI (dv L xs 14 60)))) e6 e7) [] n' (Hp S')) : WX (ab_XS L xs) RL cL_load 8 [] (ab_rm 11 MC MS) Q (K0 + k) (Z0 + z) 235 (LLs L xs (some (.int (nI (dv L xs 14 60)))) e6 e7) [] n (Hp S) := by
  obtain ⟨hn, hm, gk, gz⟩ := hw.lt h0 h7
  have q14 := dv_lt (L := L) (xs := xs) 14 60 (by decide)
  refine wa_aload_n dL_load_235 rfl ?_
  refine wa_bipush (x := 13) dL_load_236 (by decide) ?_
  refine wa_iconst (x := 2) dL_load_238 (by decide) ?_
  refine x_SI (As := [.ref (ab_CB + 500000), .int (nI (13)), .int (nI (2))]) dL_load_239 (ab_XS_M _ _) (yl_draw (k := 13) (m := 2) hL (by decide) (by decide) (by decide)) lk_L_40 rfl ?_
  have q239 := dv_lt (L := L) (xs := xs) (13) (2) (by decide)
  by_cases hc : dv L xs 13 2 = 0
  · refine wa_if_ne 262 dL_load_242 rfl (fun c => absurd (show nI (dv L xs 13 2) = 0 by rw [hc]; rfl) c) (fun c => ?_)
    refine wa_aload_n dL_load_245 rfl ?_
    refine wa_ldcS (j := 15) dL_load_246 rfl ?_
    refine wx_k (k' := K0 + k) (z' := Z0 + z) rfl rfl ?_
    refine ap_S (K0 := K0) (Z0 := Z0) dL_load_248 lk_L_49 hn hw hm (by decide) hK hZ ko_15 (lx_k 15) (by simp only [List.length_append, List.length_cons, List.length_nil, kl_2, kl_3, kl_4, kl_5, kl_6, kl_7, kl_11, kl_15, kl_16, kl_17, kl_18, kl_19, kl_20, kl_21, kl_22, kl_23, kl_24, kl_25, kl_26, kl_27, kl_28]; omega) (by exact Nat.le_of_ble_eq_true rfl) (fun n1 S1 j1 f1 k1 z1 b1 w1 => ?_)
    obtain ⟨hn1, hm1, gk1, gz1⟩ := w1.lt h0 h7
    refine wa_iload dL_load_251 rfl ?_
    have t253 := dec_3 (a := dv L xs 14 60) (by omega)
    refine wx_k (k' := K0 + k1) (z' := Z0 + z1) rfl rfl ?_
    refine ap_I (K0 := K0) (Z0 := Z0) dL_load_253 lk_L_52 hn1 w1 hm1 (by decide) hK hZ (nI_abs (by omega)) (by simp only [List.length_append, List.length_cons, List.length_nil, kl_2, kl_3, kl_4, kl_5, kl_6, kl_7, kl_11, kl_15, kl_16, kl_17, kl_18, kl_19, kl_20, kl_21, kl_22, kl_23, kl_24, kl_25, kl_26, kl_27, kl_28]; omega) (by exact Nat.le_of_ble_eq_true rfl) (fun n2 S2 j2 f2 k2 z2 b2 w2 => ?_)
    obtain ⟨hn2, hm2, gk2, gz2⟩ := w2.lt h0 h7
    refine wa_ldcS (j := 3) dL_load_256 rfl ?_
    refine wx_k (k' := K0 + k2) (z' := Z0 + z2) rfl rfl ?_
    refine ap_S (K0 := K0) (Z0 := Z0) dL_load_258 lk_L_49 hn2 w2 hm2 (by decide) hK hZ ko_3 (lx_k 3) (by simp only [List.length_append, List.length_cons, List.length_nil, kl_2, kl_3, kl_4, kl_5, kl_6, kl_7, kl_11, kl_15, kl_16, kl_17, kl_18, kl_19, kl_20, kl_21, kl_22, kl_23, kl_24, kl_25, kl_26, kl_27, kl_28]; omega) (by exact Nat.le_of_ble_eq_true rfl) (fun n3 S3 j3 f3 k3 z3 b3 w3 => ?_)
    obtain ⟨hn3, hm3, gk3, gz3⟩ := w3.lt h0 h7
    refine wa_pop dL_load_261 rfl ?_
    exact hQ _ _ _ _ _ _ (by omega) (by rw [show l ++ s_exe (dv L xs) = l ++ ab_ks 15 ++ decI (nI (dv L xs 14 60)) ++ ab_ks 3 from by unfold s_exe; rw [if_pos hc]; simp only [List.append_assoc]]; exact w3)
  · refine wa_if_ne 262 dL_load_242 rfl (fun c => ?_) (fun c => absurd c (nI_ne0 (Nat.pos_of_ne_zero hc) (by omega)))
    exact hQ _ _ _ _ _ _ (Nat.le_refl _) (by rw [show l ++ s_exe (dv L xs) = l from by unfold s_exe; rw [if_neg hc, List.append_nil]]; exact hw)
theorem ld_o8 {Q : ab_Q} {n0 n j k z L MC MS K0 Z0 : Nat} {xs : Nat → Int32} {S0 S : SS} {f : Nat → Int32} {l : List Int32} (hL : L < 2 ^ 31) (h0 : 269 ≤ n0) (h7 : n0 + 7 ≤ ab_CB) (hK : K0 + 5 ≤ MC) (hZ : Z0 + 1200 ≤ MS) (hw : WB n0 S0 n S j f l k z) {r : Nat} (hr : r < 3) (hl : l.length ≤ 488) (hQ : ∀ n' S' j' f' k' z', n ≤ n' → WB n0 S0 n' S' j' f' (l ++ s_o8 (dv L xs) r) k' z' → WX (ab_XS L xs) RL cL_load 8 [] (ab_rm 11 MC MS) Q (K0 + k') (Z0 + z') 345 (LLs L xs (some (.int (nI (dv L xs 14 60)))) (some (.int (nI r))) none) [] n' (Hp S')) : WX (ab_XS L xs) RL cL_load 8 [] (ab_rm 11 MC MS) Q (K0 + k) (Z0 + z) 309 (LLs L xs (some (.int (nI (dv L xs 14 60)))) (some (.int (nI r))) none) [] n (Hp S) := by
  obtain ⟨hn, hm, gk, gz⟩ := hw.lt h0 h7
  refine wa_aload_n dL_load_309 rfl ?_
  refine wa_bipush (x := 18) dL_load_310 (by decide) ?_
  refine wa_iload dL_load_312 rfl ?_
  refine wa_iadd dL_load_314 ?_
  rw [show (18 : Int32) + nI (r) = nI (18 + r) from nI_addS 18 _]
  refine wa_iconst (x := 2) dL_load_315 (by decide) ?_
  refine x_SI (As := [.ref (ab_CB + 500000), .int (nI (18 + r)), .int (nI (2))]) dL_load_316 (ab_XS_M _ _) (yl_draw (k := 18 + r) (m := 2) hL (by omega) (by decide) (by decide)) lk_L_40 rfl ?_
  have q316 := dv_lt (L := L) (xs := xs) (18 + r) (2) (by decide)
  by_cases hc : dv L xs (18 + r) 2 = 0
  · refine wa_if_ne 345 dL_load_319 rfl (fun c => absurd (show nI (dv L xs (18 + r) 2) = 0 by rw [hc]; rfl) c) (fun c => ?_)
    refine wa_aload_n dL_load_322 rfl ?_
    refine wa_ldcS (j := 18) dL_load_323 rfl ?_
    refine wx_k (k' := K0 + k) (z' := Z0 + z) rfl rfl ?_
    refine ap_S (K0 := K0) (Z0 := Z0) dL_load_325 lk_L_49 hn hw hm (by decide) hK hZ ko_18 (lx_k 18) (by simp only [List.length_append, List.length_cons, List.length_nil, kl_2, kl_3, kl_4, kl_5, kl_6, kl_7, kl_11, kl_15, kl_16, kl_17, kl_18, kl_19, kl_20, kl_21, kl_22, kl_23, kl_24, kl_25, kl_26, kl_27, kl_28]; omega) (by exact Nat.le_of_ble_eq_true rfl) (fun n1 S1 j1 f1 k1 z1 b1 w1 => ?_)
    obtain ⟨hn1, hm1, gk1, gz1⟩ := w1.lt h0 h7
    refine wa_iconst (x := 1) dL_load_328 (by decide) ?_
    refine wa_aload_n dL_load_329 rfl ?_
    refine wa_bipush (x := 21) dL_load_330 (by decide) ?_
    refine wa_iload dL_load_332 rfl ?_
    refine wa_iadd dL_load_334 ?_
    rw [show (21 : Int32) + nI (r) = nI (21 + r) from nI_addS 21 _]
    refine wa_bipush (x := 30) dL_load_335 (by decide) ?_
    refine x_SI (As := [.ref (ab_CB + 500000), .int (nI (21 + r)), .int (nI (30))]) dL_load_337 (ab_XS_M _ _) (yl_draw (k := 21 + r) (m := 30) hL (by omega) (by decide) (by decide)) lk_L_40 rfl ?_
    have q337 := dv_lt (L := L) (xs := xs) (21 + r) (30) (by decide)
    refine wa_iadd dL_load_340 ?_
    rw [show (1 : Int32) + nI (dv L xs (21 + r) 30) = nI (1 + dv L xs (21 + r) 30) from nI_addS 1 _]
    have t341 := dec_3 (a := 1 + dv L xs (21 + r) 30) (by omega)
    refine wx_k (k' := K0 + k1) (z' := Z0 + z1) rfl rfl ?_
    refine ap_I (K0 := K0) (Z0 := Z0) dL_load_341 lk_L_52 hn1 w1 hm1 (by decide) hK hZ (nI_abs (by omega)) (by simp only [List.length_append, List.length_cons, List.length_nil, kl_2, kl_3, kl_4, kl_5, kl_6, kl_7, kl_11, kl_15, kl_16, kl_17, kl_18, kl_19, kl_20, kl_21, kl_22, kl_23, kl_24, kl_25, kl_26, kl_27, kl_28]; omega) (by exact Nat.le_of_ble_eq_true rfl) (fun n2 S2 j2 f2 k2 z2 b2 w2 => ?_)
    obtain ⟨hn2, hm2, gk2, gz2⟩ := w2.lt h0 h7
    refine wa_pop dL_load_344 rfl ?_
    exact hQ _ _ _ _ _ _ (by omega) (by rw [show l ++ s_o8 (dv L xs) r = l ++ ab_ks 18 ++ decI (nI (1 + dv L xs (21 + r) 30)) from by unfold s_o8; rw [if_pos hc]; simp only [List.append_assoc]]; exact w2)
  · refine wa_if_ne 345 dL_load_319 rfl (fun c => ?_) (fun c => absurd c (nI_ne0 (Nat.pos_of_ne_zero hc) (by omega)))
    exact hQ _ _ _ _ _ _ (Nat.le_refl _) (by rw [show l ++ s_o8 (dv L xs) r = l from by unfold s_o8; rw [if_neg hc, List.append_nil]]; exact hw)
theorem ld_o9 {Q : ab_Q} {n0 n j k z L MC MS K0 Z0 : Nat} {xs : Nat → Int32} {S0 S : SS} {f : Nat → Int32} {l : List Int32} (hL : L < 2 ^ 31) (h0 : 269 ≤ n0) (h7 : n0 + 7 ≤ ab_CB) (hK : K0 + 5 ≤ MC) (hZ : Z0 + 1200 ≤ MS) (hw : WB n0 S0 n S j f l k z) {r : Nat} (hr : r < 3) (hl : l.length ≤ 488) (hQ : ∀ n' S' j' f' k' z', n ≤ n' → WB n0 S0 n' S' j' f' (l ++ s_o9 (dv L xs) r) k' z' → WX (ab_XS L xs) RL cL_load 8 [] (ab_rm 11 MC MS) Q (K0 + k') (Z0 + z') 379 (LLs L xs (some (.int (nI (dv L xs 14 60)))) (some (.int (nI r))) none) [] n' (Hp S')) : WX (ab_XS L xs) RL cL_load 8 [] (ab_rm 11 MC MS) Q (K0 + k) (Z0 + z) 345 (LLs L xs (some (.int (nI (dv L xs 14 60)))) (some (.int (nI r))) none) [] n (Hp S) := by
  obtain ⟨hn, hm, gk, gz⟩ := hw.lt h0 h7
  refine wa_aload_n dL_load_345 rfl ?_
  refine wa_bipush (x := 24) dL_load_346 (by decide) ?_
  refine wa_iload dL_load_348 rfl ?_
  refine wa_iadd dL_load_350 ?_
  rw [show (24 : Int32) + nI (r) = nI (24 + r) from nI_addS 24 _]
  refine wa_iconst (x := 2) dL_load_351 (by decide) ?_
  refine x_SI (As := [.ref (ab_CB + 500000), .int (nI (24 + r)), .int (nI (2))]) dL_load_352 (ab_XS_M _ _) (yl_draw (k := 24 + r) (m := 2) hL (by omega) (by decide) (by decide)) lk_L_40 rfl ?_
  have q352 := dv_lt (L := L) (xs := xs) (24 + r) (2) (by decide)
  by_cases hc : dv L xs (24 + r) 2 = 0
  · refine wa_if_ne 379 dL_load_355 rfl (fun c => absurd (show nI (dv L xs (24 + r) 2) = 0 by rw [hc]; rfl) c) (fun c => ?_)
    refine wa_aload_n dL_load_358 rfl ?_
    refine wa_ldcS (j := 19) dL_load_359 rfl ?_
    refine wx_k (k' := K0 + k) (z' := Z0 + z) rfl rfl ?_
    refine ap_S (K0 := K0) (Z0 := Z0) dL_load_361 lk_L_49 hn hw hm (by decide) hK hZ ko_19 (lx_k 19) (by simp only [List.length_append, List.length_cons, List.length_nil, kl_2, kl_3, kl_4, kl_5, kl_6, kl_7, kl_11, kl_15, kl_16, kl_17, kl_18, kl_19, kl_20, kl_21, kl_22, kl_23, kl_24, kl_25, kl_26, kl_27, kl_28]; omega) (by exact Nat.le_of_ble_eq_true rfl) (fun n1 S1 j1 f1 k1 z1 b1 w1 => ?_)
    obtain ⟨hn1, hm1, gk1, gz1⟩ := w1.lt h0 h7
    refine wa_aload_n dL_load_364 rfl ?_
    refine wa_bipush (x := 27) dL_load_365 (by decide) ?_
    refine wa_iload dL_load_367 rfl ?_
    refine wa_iadd dL_load_369 ?_
    rw [show (27 : Int32) + nI (r) = nI (27 + r) from nI_addS 27 _]
    refine wa_bipush (x := 20) dL_load_370 (by decide) ?_
    refine x_SI (As := [.ref (ab_CB + 500000), .int (nI (27 + r)), .int (nI (20))]) dL_load_372 (ab_XS_M _ _) (yl_draw (k := 27 + r) (m := 20) hL (by omega) (by decide) (by decide)) lk_L_40 rfl ?_
    have q372 := dv_lt (L := L) (xs := xs) (27 + r) (20) (by decide)
    have t375 := dec_3 (a := dv L xs (27 + r) 20) (by omega)
    refine wx_k (k' := K0 + k1) (z' := Z0 + z1) rfl rfl ?_
    refine ap_I (K0 := K0) (Z0 := Z0) dL_load_375 lk_L_52 hn1 w1 hm1 (by decide) hK hZ (nI_abs (by omega)) (by simp only [List.length_append, List.length_cons, List.length_nil, kl_2, kl_3, kl_4, kl_5, kl_6, kl_7, kl_11, kl_15, kl_16, kl_17, kl_18, kl_19, kl_20, kl_21, kl_22, kl_23, kl_24, kl_25, kl_26, kl_27, kl_28]; omega) (by exact Nat.le_of_ble_eq_true rfl) (fun n2 S2 j2 f2 k2 z2 b2 w2 => ?_)
    obtain ⟨hn2, hm2, gk2, gz2⟩ := w2.lt h0 h7
    refine wa_pop dL_load_378 rfl ?_
    exact hQ _ _ _ _ _ _ (by omega) (by rw [show l ++ s_o9 (dv L xs) r = l ++ ab_ks 19 ++ decI (nI (dv L xs (27 + r) 20)) from by unfold s_o9; rw [if_pos hc]; simp only [List.append_assoc]]; exact w2)
  · refine wa_if_ne 379 dL_load_355 rfl (fun c => ?_) (fun c => absurd c (nI_ne0 (Nat.pos_of_ne_zero hc) (by omega)))
    exact hQ _ _ _ _ _ _ (Nat.le_refl _) (by rw [show l ++ s_o9 (dv L xs) r = l from by unfold s_o9; rw [if_neg hc, List.append_nil]]; exact hw)
theorem ld_o10 {Q : ab_Q} {n0 n j k z L MC MS K0 Z0 : Nat} {xs : Nat → Int32} {S0 S : SS} {f : Nat → Int32} {l : List Int32} (hL : L < 2 ^ 31) (h0 : 269 ≤ n0) (h7 : n0 + 7 ≤ ab_CB) (hK : K0 + 5 ≤ MC) (hZ : Z0 + 1200 ≤ MS) (hw : WB n0 S0 n S j f l k z) {r : Nat} (hr : r < 3) (hl : l.length ≤ 488) (hQ : ∀ n' S' j' f' k' z', n ≤ n' → WB n0 S0 n' S' j' f' (l ++ s_o10 (dv L xs) r) k' z' → WX (ab_XS L xs) RL cL_load 8 [] (ab_rm 11 MC MS) Q (K0 + k') (Z0 + z') 413 (LLs L xs (some (.int (nI (dv L xs 14 60)))) (some (.int (nI r))) none) [] n' (Hp S')) : WX (ab_XS L xs) RL cL_load 8 [] (ab_rm 11 MC MS) Q (K0 + k) (Z0 + z) 379 (LLs L xs (some (.int (nI (dv L xs 14 60)))) (some (.int (nI r))) none) [] n (Hp S) := by
  obtain ⟨hn, hm, gk, gz⟩ := hw.lt h0 h7
  refine wa_aload_n dL_load_379 rfl ?_
  refine wa_bipush (x := 30) dL_load_380 (by decide) ?_
  refine wa_iload dL_load_382 rfl ?_
  refine wa_iadd dL_load_384 ?_
  rw [show (30 : Int32) + nI (r) = nI (30 + r) from nI_addS 30 _]
  refine wa_iconst (x := 2) dL_load_385 (by decide) ?_
  refine x_SI (As := [.ref (ab_CB + 500000), .int (nI (30 + r)), .int (nI (2))]) dL_load_386 (ab_XS_M _ _) (yl_draw (k := 30 + r) (m := 2) hL (by omega) (by decide) (by decide)) lk_L_40 rfl ?_
  have q386 := dv_lt (L := L) (xs := xs) (30 + r) (2) (by decide)
  by_cases hc : dv L xs (30 + r) 2 = 0
  · refine wa_if_ne 413 dL_load_389 rfl (fun c => absurd (show nI (dv L xs (30 + r) 2) = 0 by rw [hc]; rfl) c) (fun c => ?_)
    refine wa_aload_n dL_load_392 rfl ?_
    refine wa_ldcS (j := 20) dL_load_393 rfl ?_
    refine wx_k (k' := K0 + k) (z' := Z0 + z) rfl rfl ?_
    refine ap_S (K0 := K0) (Z0 := Z0) dL_load_395 lk_L_49 hn hw hm (by decide) hK hZ ko_20 (lx_k 20) (by simp only [List.length_append, List.length_cons, List.length_nil, kl_2, kl_3, kl_4, kl_5, kl_6, kl_7, kl_11, kl_15, kl_16, kl_17, kl_18, kl_19, kl_20, kl_21, kl_22, kl_23, kl_24, kl_25, kl_26, kl_27, kl_28]; omega) (by exact Nat.le_of_ble_eq_true rfl) (fun n1 S1 j1 f1 k1 z1 b1 w1 => ?_)
    obtain ⟨hn1, hm1, gk1, gz1⟩ := w1.lt h0 h7
    refine wa_aload_n dL_load_398 rfl ?_
    refine wa_bipush (x := 33) dL_load_399 (by decide) ?_
    refine wa_iload dL_load_401 rfl ?_
    refine wa_iadd dL_load_403 ?_
    rw [show (33 : Int32) + nI (r) = nI (33 + r) from nI_addS 33 _]
    refine wa_bipush (x := 101) dL_load_404 (by decide) ?_
    refine x_SI (As := [.ref (ab_CB + 500000), .int (nI (33 + r)), .int (nI (101))]) dL_load_406 (ab_XS_M _ _) (yl_draw (k := 33 + r) (m := 101) hL (by omega) (by decide) (by decide)) lk_L_40 rfl ?_
    have q406 := dv_lt (L := L) (xs := xs) (33 + r) (101) (by decide)
    have t409 := dec_3 (a := dv L xs (33 + r) 101) (by omega)
    refine wx_k (k' := K0 + k1) (z' := Z0 + z1) rfl rfl ?_
    refine ap_I (K0 := K0) (Z0 := Z0) dL_load_409 lk_L_52 hn1 w1 hm1 (by decide) hK hZ (nI_abs (by omega)) (by simp only [List.length_append, List.length_cons, List.length_nil, kl_2, kl_3, kl_4, kl_5, kl_6, kl_7, kl_11, kl_15, kl_16, kl_17, kl_18, kl_19, kl_20, kl_21, kl_22, kl_23, kl_24, kl_25, kl_26, kl_27, kl_28]; omega) (by exact Nat.le_of_ble_eq_true rfl) (fun n2 S2 j2 f2 k2 z2 b2 w2 => ?_)
    obtain ⟨hn2, hm2, gk2, gz2⟩ := w2.lt h0 h7
    refine wa_pop dL_load_412 rfl ?_
    exact hQ _ _ _ _ _ _ (by omega) (by rw [show l ++ s_o10 (dv L xs) r = l ++ ab_ks 20 ++ decI (nI (dv L xs (33 + r) 101)) from by unfold s_o10; rw [if_pos hc]; simp only [List.append_assoc]]; exact w2)
  · refine wa_if_ne 413 dL_load_389 rfl (fun c => ?_) (fun c => absurd c (nI_ne0 (Nat.pos_of_ne_zero hc) (by omega)))
    exact hQ _ _ _ _ _ _ (Nat.le_refl _) (by rw [show l ++ s_o10 (dv L xs) r = l from by unfold s_o10; rw [if_neg hc, List.append_nil]]; exact hw)
theorem ld_o11 {Q : ab_Q} {n0 n j k z L MC MS K0 Z0 : Nat} {xs : Nat → Int32} {S0 S : SS} {f : Nat → Int32} {l : List Int32} (hL : L < 2 ^ 31) (h0 : 269 ≤ n0) (h7 : n0 + 7 ≤ ab_CB) (hK : K0 + 5 ≤ MC) (hZ : Z0 + 1200 ≤ MS) (hw : WB n0 S0 n S j f l k z) {r : Nat} (hr : r < 3) (hl : l.length ≤ 488) (hQ : ∀ n' S' j' f' k' z', n ≤ n' → WB n0 S0 n' S' j' f' (l ++ s_o11 (dv L xs) r) k' z' → WX (ab_XS L xs) RL cL_load 8 [] (ab_rm 11 MC MS) Q (K0 + k') (Z0 + z') 448 (LLs L xs (some (.int (nI (dv L xs 14 60)))) (some (.int (nI r))) none) [] n' (Hp S')) : WX (ab_XS L xs) RL cL_load 8 [] (ab_rm 11 MC MS) Q (K0 + k) (Z0 + z) 413 (LLs L xs (some (.int (nI (dv L xs 14 60)))) (some (.int (nI r))) none) [] n (Hp S) := by
  obtain ⟨hn, hm, gk, gz⟩ := hw.lt h0 h7
  refine wa_aload_n dL_load_413 rfl ?_
  refine wa_bipush (x := 36) dL_load_414 (by decide) ?_
  refine wa_iload dL_load_416 rfl ?_
  refine wa_iadd dL_load_418 ?_
  rw [show (36 : Int32) + nI (r) = nI (36 + r) from nI_addS 36 _]
  refine wa_iconst (x := 2) dL_load_419 (by decide) ?_
  refine x_SI (As := [.ref (ab_CB + 500000), .int (nI (36 + r)), .int (nI (2))]) dL_load_420 (ab_XS_M _ _) (yl_draw (k := 36 + r) (m := 2) hL (by omega) (by decide) (by decide)) lk_L_40 rfl ?_
  have q420 := dv_lt (L := L) (xs := xs) (36 + r) (2) (by decide)
  by_cases hc : dv L xs (36 + r) 2 = 0
  · refine wa_if_ne 448 dL_load_423 rfl (fun c => absurd (show nI (dv L xs (36 + r) 2) = 0 by rw [hc]; rfl) c) (fun c => ?_)
    refine wa_aload_n dL_load_426 rfl ?_
    refine wa_ldcS (j := 21) dL_load_427 rfl ?_
    refine wx_k (k' := K0 + k) (z' := Z0 + z) rfl rfl ?_
    refine ap_S (K0 := K0) (Z0 := Z0) dL_load_429 lk_L_49 hn hw hm (by decide) hK hZ ko_21 (lx_k 21) (by simp only [List.length_append, List.length_cons, List.length_nil, kl_2, kl_3, kl_4, kl_5, kl_6, kl_7, kl_11, kl_15, kl_16, kl_17, kl_18, kl_19, kl_20, kl_21, kl_22, kl_23, kl_24, kl_25, kl_26, kl_27, kl_28]; omega) (by exact Nat.le_of_ble_eq_true rfl) (fun n1 S1 j1 f1 k1 z1 b1 w1 => ?_)
    obtain ⟨hn1, hm1, gk1, gz1⟩ := w1.lt h0 h7
    refine wa_aload_n dL_load_432 rfl ?_
    refine wa_bipush (x := 39) dL_load_433 (by decide) ?_
    refine wa_iload dL_load_435 rfl ?_
    refine wa_iadd dL_load_437 ?_
    rw [show (39 : Int32) + nI (r) = nI (39 + r) from nI_addS 39 _]
    refine wa_sipush (x := 300) dL_load_438 (by decide) ?_
    refine x_SI (As := [.ref (ab_CB + 500000), .int (nI (39 + r)), .int (nI (300))]) dL_load_441 (ab_XS_M _ _) (yl_draw (k := 39 + r) (m := 300) hL (by omega) (by decide) (by decide)) lk_L_40 rfl ?_
    have q441 := dv_lt (L := L) (xs := xs) (39 + r) (300) (by decide)
    have t444 := dec_3 (a := dv L xs (39 + r) 300) (by omega)
    refine wx_k (k' := K0 + k1) (z' := Z0 + z1) rfl rfl ?_
    refine ap_I (K0 := K0) (Z0 := Z0) dL_load_444 lk_L_52 hn1 w1 hm1 (by decide) hK hZ (nI_abs (by omega)) (by simp only [List.length_append, List.length_cons, List.length_nil, kl_2, kl_3, kl_4, kl_5, kl_6, kl_7, kl_11, kl_15, kl_16, kl_17, kl_18, kl_19, kl_20, kl_21, kl_22, kl_23, kl_24, kl_25, kl_26, kl_27, kl_28]; omega) (by exact Nat.le_of_ble_eq_true rfl) (fun n2 S2 j2 f2 k2 z2 b2 w2 => ?_)
    obtain ⟨hn2, hm2, gk2, gz2⟩ := w2.lt h0 h7
    refine wa_pop dL_load_447 rfl ?_
    exact hQ _ _ _ _ _ _ (by omega) (by rw [show l ++ s_o11 (dv L xs) r = l ++ ab_ks 21 ++ decI (nI (dv L xs (39 + r) 300)) from by unfold s_o11; rw [if_pos hc]; simp only [List.append_assoc]]; exact w2)
  · refine wa_if_ne 448 dL_load_423 rfl (fun c => ?_) (fun c => absurd c (nI_ne0 (Nat.pos_of_ne_zero hc) (by omega)))
    exact hQ _ _ _ _ _ _ (Nat.le_refl _) (by rw [show l ++ s_o11 (dv L xs) r = l from by unfold s_o11; rw [if_neg hc, List.append_nil]]; exact hw)
theorem ld_prg {Q : ab_Q} {n0 n j k z L MC MS K0 Z0 : Nat} {xs : Nat → Int32} {S0 S : SS} {f : Nat → Int32} {l : List Int32} {e5 e6 e7 : Option Value} (hL : L < 2 ^ 31) (h0 : 269 ≤ n0) (h7 : n0 + 7 ≤ ab_CB) (hK : K0 + 5 ≤ MC) (hZ : Z0 + 1200 ≤ MS) (hw : WB n0 S0 n S j f l k z) (hl : l.length ≤ 473) (hQ : ∀ n' S' j' f' k' z', n ≤ n' → WB n0 S0 n' S' j' f' (l ++ s_prog (dv L xs)) k' z' → WX (ab_XS L xs) RL cL_load 8 [] (ab_rm 11 MC MS) Q (K0 + k') (Z0 + z') 553 (LLs L xs e5 e6 e7) [] n' (Hp S')) : WX (ab_XS L xs) RL cL_load 8 [] (ab_rm 11 MC MS) Q (K0 + k) (Z0 + z) 461 (LLs L xs e5 e6 e7) [] n (Hp S) := by
  obtain ⟨hn, hm, gk, gz⟩ := hw.lt h0 h7
  refine wa_aload_n dL_load_461 rfl ?_
  refine wa_bipush (x := 42) dL_load_462 (by decide) ?_
  refine wa_iconst (x := 2) dL_load_464 (by decide) ?_
  refine x_SI (As := [.ref (ab_CB + 500000), .int (nI (42)), .int (nI (2))]) dL_load_465 (ab_XS_M _ _) (yl_draw (k := 42) (m := 2) hL (by decide) (by decide) (by decide)) lk_L_40 rfl ?_
  have q465 := dv_lt (L := L) (xs := xs) (42) (2) (by decide)
  by_cases hc : dv L xs 42 2 = 0
  · refine wa_if_ne 553 dL_load_468 rfl (fun c => absurd (show nI (dv L xs 42 2) = 0 by rw [hc]; rfl) c) (fun c => ?_)
    refine wa_aload_n dL_load_471 rfl ?_
    refine wa_ldcS (j := 22) dL_load_472 rfl ?_
    refine wx_k (k' := K0 + k) (z' := Z0 + z) rfl rfl ?_
    refine ap_S (K0 := K0) (Z0 := Z0) dL_load_474 lk_L_49 hn hw hm (by decide) hK hZ ko_22 (lx_k 22) (by simp only [List.length_append, List.length_cons, List.length_nil, kl_2, kl_3, kl_4, kl_5, kl_6, kl_7, kl_11, kl_15, kl_16, kl_17, kl_18, kl_19, kl_20, kl_21, kl_22, kl_23, kl_24, kl_25, kl_26, kl_27, kl_28]; omega) (by exact Nat.le_of_ble_eq_true rfl) (fun n1 S1 j1 f1 k1 z1 b1 w1 => ?_)
    obtain ⟨hn1, hm1, gk1, gz1⟩ := w1.lt h0 h7
    refine wa_aload_n dL_load_477 rfl ?_
    refine wa_bipush (x := 43) dL_load_478 (by decide) ?_
    refine wa_bipush (x := 20) dL_load_480 (by decide) ?_
    refine x_SI (As := [.ref (ab_CB + 500000), .int (nI (43)), .int (nI (20))]) dL_load_482 (ab_XS_M _ _) (yl_draw (k := 43) (m := 20) hL (by decide) (by decide) (by decide)) lk_L_40 rfl ?_
    have q482 := dv_lt (L := L) (xs := xs) (43) (20) (by decide)
    have t485 := dec_3 (a := dv L xs 43 20) (by omega)
    refine wx_k (k' := K0 + k1) (z' := Z0 + z1) rfl rfl ?_
    refine ap_I (K0 := K0) (Z0 := Z0) dL_load_485 lk_L_52 hn1 w1 hm1 (by decide) hK hZ (nI_abs (by omega)) (by simp only [List.length_append, List.length_cons, List.length_nil, kl_2, kl_3, kl_4, kl_5, kl_6, kl_7, kl_11, kl_15, kl_16, kl_17, kl_18, kl_19, kl_20, kl_21, kl_22, kl_23, kl_24, kl_25, kl_26, kl_27, kl_28]; omega) (by exact Nat.le_of_ble_eq_true rfl) (fun n2 S2 j2 f2 k2 z2 b2 w2 => ?_)
    obtain ⟨hn2, hm2, gk2, gz2⟩ := w2.lt h0 h7
    refine wa_ldcS (j := 23) dL_load_488 rfl ?_
    refine wx_k (k' := K0 + k2) (z' := Z0 + z2) rfl rfl ?_
    refine ap_S (K0 := K0) (Z0 := Z0) dL_load_490 lk_L_49 hn2 w2 hm2 (by decide) hK hZ ko_23 (lx_k 23) (by simp only [List.length_append, List.length_cons, List.length_nil, kl_2, kl_3, kl_4, kl_5, kl_6, kl_7, kl_11, kl_15, kl_16, kl_17, kl_18, kl_19, kl_20, kl_21, kl_22, kl_23, kl_24, kl_25, kl_26, kl_27, kl_28]; omega) (by exact Nat.le_of_ble_eq_true rfl) (fun n3 S3 j3 f3 k3 z3 b3 w3 => ?_)
    obtain ⟨hn3, hm3, gk3, gz3⟩ := w3.lt h0 h7
    refine wa_bipush (x := 50) dL_load_493 (by decide) ?_
    refine wa_aload_n dL_load_495 rfl ?_
    refine wa_bipush (x := 44) dL_load_496 (by decide) ?_
    refine wa_sipush (x := 200) dL_load_498 (by decide) ?_
    refine x_SI (As := [.ref (ab_CB + 500000), .int (nI (44)), .int (nI (200))]) dL_load_501 (ab_XS_M _ _) (yl_draw (k := 44) (m := 200) hL (by decide) (by decide) (by decide)) lk_L_40 rfl ?_
    have q501 := dv_lt (L := L) (xs := xs) (44) (200) (by decide)
    refine wa_iadd dL_load_504 ?_
    rw [show (50 : Int32) + nI (dv L xs 44 200) = nI (50 + dv L xs 44 200) from nI_addS 50 _]
    have t505 := dec_3 (a := 50 + dv L xs 44 200) (by omega)
    refine wx_k (k' := K0 + k3) (z' := Z0 + z3) rfl rfl ?_
    refine ap_I (K0 := K0) (Z0 := Z0) dL_load_505 lk_L_52 hn3 w3 hm3 (by decide) hK hZ (nI_abs (by omega)) (by simp only [List.length_append, List.length_cons, List.length_nil, kl_2, kl_3, kl_4, kl_5, kl_6, kl_7, kl_11, kl_15, kl_16, kl_17, kl_18, kl_19, kl_20, kl_21, kl_22, kl_23, kl_24, kl_25, kl_26, kl_27, kl_28]; omega) (by exact Nat.le_of_ble_eq_true rfl) (fun n4 S4 j4 f4 k4 z4 b4 w4 => ?_)
    obtain ⟨hn4, hm4, gk4, gz4⟩ := w4.lt h0 h7
    refine wa_ldcS (j := 24) dL_load_508 rfl ?_
    refine wx_k (k' := K0 + k4) (z' := Z0 + z4) rfl rfl ?_
    refine ap_S (K0 := K0) (Z0 := Z0) dL_load_510 lk_L_49 hn4 w4 hm4 (by decide) hK hZ ko_24 (lx_k 24) (by simp only [List.length_append, List.length_cons, List.length_nil, kl_2, kl_3, kl_4, kl_5, kl_6, kl_7, kl_11, kl_15, kl_16, kl_17, kl_18, kl_19, kl_20, kl_21, kl_22, kl_23, kl_24, kl_25, kl_26, kl_27, kl_28]; omega) (by exact Nat.le_of_ble_eq_true rfl) (fun n5 S5 j5 f5 k5 z5 b5 w5 => ?_)
    obtain ⟨hn5, hm5, gk5, gz5⟩ := w5.lt h0 h7
    refine wa_bipush (x := 20) dL_load_513 (by decide) ?_
    refine wa_aload_n dL_load_515 rfl ?_
    refine wa_bipush (x := 45) dL_load_516 (by decide) ?_
    refine wa_bipush (x := 28) dL_load_518 (by decide) ?_
    refine x_SI (As := [.ref (ab_CB + 500000), .int (nI (45)), .int (nI (28))]) dL_load_520 (ab_XS_M _ _) (yl_draw (k := 45) (m := 28) hL (by decide) (by decide) (by decide)) lk_L_40 rfl ?_
    have q520 := dv_lt (L := L) (xs := xs) (45) (28) (by decide)
    refine wa_iadd dL_load_523 ?_
    rw [show (20 : Int32) + nI (dv L xs 45 28) = nI (20 + dv L xs 45 28) from nI_addS 20 _]
    have t524 := dec_3 (a := 20 + dv L xs 45 28) (by omega)
    refine wx_k (k' := K0 + k5) (z' := Z0 + z5) rfl rfl ?_
    refine ap_I (K0 := K0) (Z0 := Z0) dL_load_524 lk_L_52 hn5 w5 hm5 (by decide) hK hZ (nI_abs (by omega)) (by simp only [List.length_append, List.length_cons, List.length_nil, kl_2, kl_3, kl_4, kl_5, kl_6, kl_7, kl_11, kl_15, kl_16, kl_17, kl_18, kl_19, kl_20, kl_21, kl_22, kl_23, kl_24, kl_25, kl_26, kl_27, kl_28]; omega) (by exact Nat.le_of_ble_eq_true rfl) (fun n6 S6 j6 f6 k6 z6 b6 w6 => ?_)
    obtain ⟨hn6, hm6, gk6, gz6⟩ := w6.lt h0 h7
    refine wa_ldcS (j := 23) dL_load_527 rfl ?_
    refine wx_k (k' := K0 + k6) (z' := Z0 + z6) rfl rfl ?_
    refine ap_S (K0 := K0) (Z0 := Z0) dL_load_529 lk_L_49 hn6 w6 hm6 (by decide) hK hZ ko_23 (lx_k 23) (by simp only [List.length_append, List.length_cons, List.length_nil, kl_2, kl_3, kl_4, kl_5, kl_6, kl_7, kl_11, kl_15, kl_16, kl_17, kl_18, kl_19, kl_20, kl_21, kl_22, kl_23, kl_24, kl_25, kl_26, kl_27, kl_28]; omega) (by exact Nat.le_of_ble_eq_true rfl) (fun n7 S7 j7 f7 k7 z7 b7 w7 => ?_)
    obtain ⟨hn7, hm7, gk7, gz7⟩ := w7.lt h0 h7
    refine wa_bipush (x := 100) dL_load_532 (by decide) ?_
    refine wa_aload_n dL_load_534 rfl ?_
    refine wa_bipush (x := 46) dL_load_535 (by decide) ?_
    refine wa_sipush (x := 150) dL_load_537 (by decide) ?_
    refine x_SI (As := [.ref (ab_CB + 500000), .int (nI (46)), .int (nI (150))]) dL_load_540 (ab_XS_M _ _) (yl_draw (k := 46) (m := 150) hL (by decide) (by decide) (by decide)) lk_L_40 rfl ?_
    have q540 := dv_lt (L := L) (xs := xs) (46) (150) (by decide)
    refine wa_iadd dL_load_543 ?_
    rw [show (100 : Int32) + nI (dv L xs 46 150) = nI (100 + dv L xs 46 150) from nI_addS 100 _]
    have t544 := dec_3 (a := 100 + dv L xs 46 150) (by omega)
    refine wx_k (k' := K0 + k7) (z' := Z0 + z7) rfl rfl ?_
    refine ap_I (K0 := K0) (Z0 := Z0) dL_load_544 lk_L_52 hn7 w7 hm7 (by decide) hK hZ (nI_abs (by omega)) (by simp only [List.length_append, List.length_cons, List.length_nil, kl_2, kl_3, kl_4, kl_5, kl_6, kl_7, kl_11, kl_15, kl_16, kl_17, kl_18, kl_19, kl_20, kl_21, kl_22, kl_23, kl_24, kl_25, kl_26, kl_27, kl_28]; omega) (by exact Nat.le_of_ble_eq_true rfl) (fun n8 S8 j8 f8 k8 z8 b8 w8 => ?_)
    obtain ⟨hn8, hm8, gk8, gz8⟩ := w8.lt h0 h7
    refine wa_ldcS (j := 3) dL_load_547 rfl ?_
    refine wx_k (k' := K0 + k8) (z' := Z0 + z8) rfl rfl ?_
    refine ap_S (K0 := K0) (Z0 := Z0) dL_load_549 lk_L_49 hn8 w8 hm8 (by decide) hK hZ ko_3 (lx_k 3) (by simp only [List.length_append, List.length_cons, List.length_nil, kl_2, kl_3, kl_4, kl_5, kl_6, kl_7, kl_11, kl_15, kl_16, kl_17, kl_18, kl_19, kl_20, kl_21, kl_22, kl_23, kl_24, kl_25, kl_26, kl_27, kl_28]; omega) (by exact Nat.le_of_ble_eq_true rfl) (fun n9 S9 j9 f9 k9 z9 b9 w9 => ?_)
    obtain ⟨hn9, hm9, gk9, gz9⟩ := w9.lt h0 h7
    refine wa_pop dL_load_552 rfl ?_
    exact hQ _ _ _ _ _ _ (by omega) (by rw [show l ++ s_prog (dv L xs) = l ++ ab_ks 22 ++ decI (nI (dv L xs 43 20)) ++ ab_ks 23 ++ decI (nI (50 + dv L xs 44 200)) ++ ab_ks 24 ++ decI (nI (20 + dv L xs 45 28)) ++ ab_ks 23 ++ decI (nI (100 + dv L xs 46 150)) ++ ab_ks 3 from by unfold s_prog; rw [if_pos hc]; simp only [List.append_assoc]]; exact w9)
  · refine wa_if_ne 553 dL_load_468 rfl (fun c => ?_) (fun c => absurd c (nI_ne0 (Nat.pos_of_ne_zero hc) (by omega)))
    exact hQ _ _ _ _ _ _ (Nat.le_refl _) (by rw [show l ++ s_prog (dv L xs) = l from by unfold s_prog; rw [if_neg hc, List.append_nil]]; exact hw)
def s_rh (v : Nat → Nat → Nat) (r : Nat) : List Int32 := ab_ks 16 ++ ([nI (97 + r)] ++ (ab_ks 17 ++ decI (nI (100 + v (15 + r) 150))))
theorem ld_rh {Q : ab_Q} {n0 n j k z L MC MS K0 Z0 : Nat} {xs : Nat → Int32} {S0 S : SS} {f : Nat → Int32} {l : List Int32} (hL : L < 2 ^ 31) (h0 : 269 ≤ n0) (h7 : n0 + 7 ≤ ab_CB) (hK : K0 + 5 ≤ MC) (hZ : Z0 + 1200 ≤ MS) (hw : WB n0 S0 n S j f l k z) {r : Nat} (hr : r < 3) (hl : l.length ≤ 480) (hQ : ∀ n' S' j' f' k' z', n ≤ n' → WB n0 S0 n' S' j' f' (l ++ s_rh (dv L xs) r) k' z' → WX (ab_XS L xs) RL cL_load 8 [] (ab_rm 11 MC MS) Q (K0 + k') (Z0 + z') 309 (LLs L xs (some (.int (nI (dv L xs 14 60)))) (some (.int (nI r))) none) [] n' (Hp S')) : WX (ab_XS L xs) RL cL_load 8 [] (ab_rm 11 MC MS) Q (K0 + k) (Z0 + z) 271 (LLs L xs (some (.int (nI (dv L xs 14 60)))) (some (.int (nI r))) none) [] n (Hp S) := by
  obtain ⟨hn, hm, gk, gz⟩ := hw.lt h0 h7
  refine wa_aload_n dL_load_271 rfl ?_
  refine wa_ldcS (j := 16) dL_load_272 rfl ?_
  refine wx_k (k' := K0 + k) (z' := Z0 + z) rfl rfl ?_
  refine ap_S (K0 := K0) (Z0 := Z0) dL_load_274 lk_L_49 hn hw hm (by decide) hK hZ ko_16 (lx_k 16) (by simp only [List.length_append, List.length_cons, List.length_nil, kl_2, kl_3, kl_4, kl_5, kl_6, kl_7, kl_11, kl_15, kl_16, kl_17, kl_18, kl_19, kl_20, kl_21, kl_22, kl_23, kl_24, kl_25, kl_26, kl_27, kl_28]; omega) (by exact Nat.le_of_ble_eq_true rfl) (fun n1 S1 j1 f1 k1 z1 b1 w1 => ?_)
  obtain ⟨hn1, hm1, gk1, gz1⟩ := w1.lt h0 h7
  refine wa_iload dL_load_277 rfl ?_
  refine c_SI (As := [.int (nI (r))]) dL_load_279 (yl_name (r := r) (by omega)) lk_L_71 rfl ?_
  refine wx_k (k' := K0 + k1) (z' := Z0 + z1) rfl rfl ?_
  refine ap_C (K0 := K0) (Z0 := Z0) dL_load_282 lk_L_74 hn1 w1 hm1 (by decide) hK hZ (let_by _ (by omega)) (by simp only [List.length_append, List.length_cons, List.length_nil, kl_2, kl_3, kl_4, kl_5, kl_6, kl_7, kl_11, kl_15, kl_16, kl_17, kl_18, kl_19, kl_20, kl_21, kl_22, kl_23, kl_24, kl_25, kl_26, kl_27, kl_28]; omega) (by exact Nat.le_of_ble_eq_true rfl) (fun n2 S2 j2 f2 k2 z2 b2 w2 => ?_)
  obtain ⟨hn2, hm2, gk2, gz2⟩ := w2.lt h0 h7
  refine wa_ldcS (j := 17) dL_load_285 rfl ?_
  refine wx_k (k' := K0 + k2) (z' := Z0 + z2) rfl rfl ?_
  refine ap_S (K0 := K0) (Z0 := Z0) dL_load_287 lk_L_49 hn2 w2 hm2 (by decide) hK hZ ko_17 (lx_k 17) (by simp only [List.length_append, List.length_cons, List.length_nil, kl_2, kl_3, kl_4, kl_5, kl_6, kl_7, kl_11, kl_15, kl_16, kl_17, kl_18, kl_19, kl_20, kl_21, kl_22, kl_23, kl_24, kl_25, kl_26, kl_27, kl_28]; omega) (by exact Nat.le_of_ble_eq_true rfl) (fun n3 S3 j3 f3 k3 z3 b3 w3 => ?_)
  obtain ⟨hn3, hm3, gk3, gz3⟩ := w3.lt h0 h7
  refine wa_bipush (x := 100) dL_load_290 (by decide) ?_
  refine wa_aload_n dL_load_292 rfl ?_
  refine wa_bipush (x := 15) dL_load_293 (by decide) ?_
  refine wa_iload dL_load_295 rfl ?_
  refine wa_iadd dL_load_297 ?_
  rw [show (15 : Int32) + nI (r) = nI (15 + r) from nI_addS 15 _]
  refine wa_sipush (x := 150) dL_load_298 (by decide) ?_
  refine x_SI (As := [.ref (ab_CB + 500000), .int (nI (15 + r)), .int (nI (150))]) dL_load_301 (ab_XS_M _ _) (yl_draw (k := 15 + r) (m := 150) hL (by omega) (by decide) (by decide)) lk_L_40 rfl ?_
  have q301 := dv_lt (L := L) (xs := xs) (15 + r) (150) (by decide)
  refine wa_iadd dL_load_304 ?_
  rw [show (100 : Int32) + nI (dv L xs (15 + r) 150) = nI (100 + dv L xs (15 + r) 150) from nI_addS 100 _]
  have t305 := dec_3 (a := 100 + dv L xs (15 + r) 150) (by omega)
  refine wx_k (k' := K0 + k3) (z' := Z0 + z3) rfl rfl ?_
  refine ap_I (K0 := K0) (Z0 := Z0) dL_load_305 lk_L_52 hn3 w3 hm3 (by decide) hK hZ (nI_abs (by omega)) (by simp only [List.length_append, List.length_cons, List.length_nil, kl_2, kl_3, kl_4, kl_5, kl_6, kl_7, kl_11, kl_15, kl_16, kl_17, kl_18, kl_19, kl_20, kl_21, kl_22, kl_23, kl_24, kl_25, kl_26, kl_27, kl_28]; omega) (by exact Nat.le_of_ble_eq_true rfl) (fun n4 S4 j4 f4 k4 z4 b4 w4 => ?_)
  obtain ⟨hn4, hm4, gk4, gz4⟩ := w4.lt h0 h7
  refine wa_pop dL_load_308 rfl ?_
  exact hQ _ _ _ _ _ _ (by omega) (by rw [show l ++ s_rh (dv L xs) r = l ++ ab_ks 16 ++ [nI (97 + r)] ++ ab_ks 17 ++ decI (nI (100 + dv L xs (15 + r) 150)) from by unfold s_rh; simp only [List.append_assoc]]; exact w4)
theorem ld_re {Q : ab_Q} {n0 n j k z L MC MS K0 Z0 : Nat} {xs : Nat → Int32} {S0 S : SS} {f : Nat → Int32} {l : List Int32} (hL : L < 2 ^ 31) (h0 : 269 ≤ n0) (h7 : n0 + 7 ≤ ab_CB) (hK : K0 + 5 ≤ MC) (hZ : Z0 + 1200 ≤ MS) (hw : WB n0 S0 n S j f l k z) {r : Nat} (hr : r < 3) (hl : l.length ≤ 480) (hQ : ∀ n' S' j' f' k' z', n ≤ n' → WB n0 S0 n' S' j' f' (l ++ ab_ks 3) k' z' → WX (ab_XS L xs) RL cL_load 8 [] (ab_rm 11 MC MS) Q (K0 + k') (Z0 + z') 265 (LLs L xs (some (.int (nI (dv L xs 14 60)))) (some (.int (nI (r + 1)))) none) [] n' (Hp S')) : WX (ab_XS L xs) RL cL_load 8 [] (ab_rm 11 MC MS) Q (K0 + k) (Z0 + z) 448 (LLs L xs (some (.int (nI (dv L xs 14 60)))) (some (.int (nI r))) none) [] n (Hp S) := by
  obtain ⟨hn, hm, gk, gz⟩ := hw.lt h0 h7
  refine wa_aload_n dL_load_448 rfl ?_
  refine wa_ldcS (j := 3) dL_load_449 rfl ?_
  refine wx_k (k' := K0 + k) (z' := Z0 + z) rfl rfl ?_
  refine ap_S (K0 := K0) (Z0 := Z0) dL_load_451 lk_L_49 hn hw hm (by decide) hK hZ ko_3 (lx_k 3) (by simp only [List.length_append, List.length_cons, List.length_nil, kl_2, kl_3, kl_4, kl_5, kl_6, kl_7, kl_11, kl_15, kl_16, kl_17, kl_18, kl_19, kl_20, kl_21, kl_22, kl_23, kl_24, kl_25, kl_26, kl_27, kl_28]; omega) (by exact Nat.le_of_ble_eq_true rfl) (fun n1 S1 j1 f1 k1 z1 b1 w1 => ?_)
  obtain ⟨hn1, hm1, gk1, gz1⟩ := w1.lt h0 h7
  refine wa_pop dL_load_454 rfl ?_
  refine wa_iinc (y := 1) dL_load_455 rfl (by decide) rfl ?_
  refine wa_goto 265 dL_load_458 rfl ?_
  rw [show nI r + 1 = nI (r + 1) from nI_addS r 1]
  exact hQ _ _ _ _ _ _ (by omega) w1
theorem s_out_ln (L : Nat) (xs : Nat → Int32) : (s_out (dv L xs)).length ≤ 13 := by
  unfold s_out
  split
  · have q := (x_ok L xs).2
    simp only [List.length_append, List.length_cons, List.length_nil, kl_2, kl_3, kl_4, kl_5, kl_6, kl_7, kl_11, kl_15, kl_16, kl_17, kl_18, kl_19, kl_20, kl_21, kl_22, kl_23, kl_24, kl_25, kl_26, kl_27, kl_28]
    omega
  · exact Nat.zero_le _
theorem s_win_ln (L : Nat) (xs : Nat → Int32) : (s_win (dv L xs)).length ≤ 20 := by
  unfold s_win
  split
  · have q1 := dec_3 (a := 1 + dv L xs (5) 12) (by have := dv_lt (L := L) (xs := xs) (5) 12 (by decide); omega)
    have q2 := dec_3 (a := 1 + dv L xs (6) 5) (by have := dv_lt (L := L) (xs := xs) (6) 5 (by decide); omega)
    simp only [List.length_append, List.length_cons, List.length_nil, kl_2, kl_3, kl_4, kl_5, kl_6, kl_7, kl_11, kl_15, kl_16, kl_17, kl_18, kl_19, kl_20, kl_21, kl_22, kl_23, kl_24, kl_25, kl_26, kl_27, kl_28]
    omega
  · exact Nat.zero_le _
theorem s_bak_ln (L : Nat) (xs : Nat → Int32) : (s_bak (dv L xs)).length ≤ 9 := by
  unfold s_bak
  split
  · have q1 := dec_3 (a := dv L xs (8) 80) (by have := dv_lt (L := L) (xs := xs) (8) 80 (by decide); omega)
    simp only [List.length_append, List.length_cons, List.length_nil, kl_2, kl_3, kl_4, kl_5, kl_6, kl_7, kl_11, kl_15, kl_16, kl_17, kl_18, kl_19, kl_20, kl_21, kl_22, kl_23, kl_24, kl_25, kl_26, kl_27, kl_28]
    omega
  · exact Nat.zero_le _
theorem s_ctl_ln (L : Nat) (xs : Nat → Int32) : (s_ctl (dv L xs)).length ≤ 20 := by
  unfold s_ctl
  split
  · have q1 := dec_3 (a := dv L xs (10) 8) (by have := dv_lt (L := L) (xs := xs) (10) 8 (by decide); omega)
    have q2 := dec_3 (a := 1 + dv L xs (11) 12) (by have := dv_lt (L := L) (xs := xs) (11) 12 (by decide); omega)
    have q3 := dec_3 (a := 1 + dv L xs (12) 60) (by have := dv_lt (L := L) (xs := xs) (12) 60 (by decide); omega)
    simp only [List.length_append, List.length_cons, List.length_nil, kl_2, kl_3, kl_4, kl_5, kl_6, kl_7, kl_11, kl_15, kl_16, kl_17, kl_18, kl_19, kl_20, kl_21, kl_22, kl_23, kl_24, kl_25, kl_26, kl_27, kl_28]
    omega
  · exact Nat.zero_le _
theorem s_exe_ln (L : Nat) (xs : Nat → Int32) : (s_exe (dv L xs)).length ≤ 13 := by
  unfold s_exe
  split
  · have q1 := dec_3 (a := dv L xs (14) 60) (by have := dv_lt (L := L) (xs := xs) (14) 60 (by decide); omega)
    simp only [List.length_append, List.length_cons, List.length_nil, kl_2, kl_3, kl_4, kl_5, kl_6, kl_7, kl_11, kl_15, kl_16, kl_17, kl_18, kl_19, kl_20, kl_21, kl_22, kl_23, kl_24, kl_25, kl_26, kl_27, kl_28]
    omega
  · exact Nat.zero_le _
theorem s_o8_ln (L : Nat) (xs : Nat → Int32) (r : Nat) : (s_o8 (dv L xs) r).length ≤ 12 := by
  unfold s_o8
  split
  · have q1 := dec_3 (a := 1 + dv L xs (21 + r) 30) (by have := dv_lt (L := L) (xs := xs) (21 + r) 30 (by decide); omega)
    simp only [List.length_append, List.length_cons, List.length_nil, kl_2, kl_3, kl_4, kl_5, kl_6, kl_7, kl_11, kl_15, kl_16, kl_17, kl_18, kl_19, kl_20, kl_21, kl_22, kl_23, kl_24, kl_25, kl_26, kl_27, kl_28]
    omega
  · exact Nat.zero_le _
theorem s_o9_ln (L : Nat) (xs : Nat → Int32) (r : Nat) : (s_o9 (dv L xs) r).length ≤ 12 := by
  unfold s_o9
  split
  · have q1 := dec_3 (a := dv L xs (27 + r) 20) (by have := dv_lt (L := L) (xs := xs) (27 + r) 20 (by decide); omega)
    simp only [List.length_append, List.length_cons, List.length_nil, kl_2, kl_3, kl_4, kl_5, kl_6, kl_7, kl_11, kl_15, kl_16, kl_17, kl_18, kl_19, kl_20, kl_21, kl_22, kl_23, kl_24, kl_25, kl_26, kl_27, kl_28]
    omega
  · exact Nat.zero_le _
theorem s_o10_ln (L : Nat) (xs : Nat → Int32) (r : Nat) : (s_o10 (dv L xs) r).length ≤ 12 := by
  unfold s_o10
  split
  · have q1 := dec_3 (a := dv L xs (33 + r) 101) (by have := dv_lt (L := L) (xs := xs) (33 + r) 101 (by decide); omega)
    simp only [List.length_append, List.length_cons, List.length_nil, kl_2, kl_3, kl_4, kl_5, kl_6, kl_7, kl_11, kl_15, kl_16, kl_17, kl_18, kl_19, kl_20, kl_21, kl_22, kl_23, kl_24, kl_25, kl_26, kl_27, kl_28]
    omega
  · exact Nat.zero_le _
theorem s_o11_ln (L : Nat) (xs : Nat → Int32) (r : Nat) : (s_o11 (dv L xs) r).length ≤ 12 := by
  unfold s_o11
  split
  · have q1 := dec_3 (a := dv L xs (39 + r) 300) (by have := dv_lt (L := L) (xs := xs) (39 + r) 300 (by decide); omega)
    simp only [List.length_append, List.length_cons, List.length_nil, kl_2, kl_3, kl_4, kl_5, kl_6, kl_7, kl_11, kl_15, kl_16, kl_17, kl_18, kl_19, kl_20, kl_21, kl_22, kl_23, kl_24, kl_25, kl_26, kl_27, kl_28]
    omega
  · exact Nat.zero_le _
theorem s_prog_ln (L : Nat) (xs : Nat → Int32) : (s_prog (dv L xs)).length ≤ 27 := by
  unfold s_prog
  split
  · have q1 := dec_3 (a := dv L xs (43) 20) (by have := dv_lt (L := L) (xs := xs) (43) 20 (by decide); omega)
    have q2 := dec_3 (a := 50 + dv L xs (44) 200) (by have := dv_lt (L := L) (xs := xs) (44) 200 (by decide); omega)
    have q3 := dec_3 (a := 20 + dv L xs (45) 28) (by have := dv_lt (L := L) (xs := xs) (45) 28 (by decide); omega)
    have q4 := dec_3 (a := 100 + dv L xs (46) 150) (by have := dv_lt (L := L) (xs := xs) (46) 150 (by decide); omega)
    simp only [List.length_append, List.length_cons, List.length_nil, kl_2, kl_3, kl_4, kl_5, kl_6, kl_7, kl_11, kl_15, kl_16, kl_17, kl_18, kl_19, kl_20, kl_21, kl_22, kl_23, kl_24, kl_25, kl_26, kl_27, kl_28]
    omega
  · exact Nat.zero_le _
theorem s_rh_ln (L : Nat) (xs : Nat → Int32) (r : Nat) : (s_rh (dv L xs) r).length ≤ 16 := by
  unfold s_rh
  have q1 := dec_3 (a := 100 + dv L xs (15 + r) 150) (by have := dv_lt (L := L) (xs := xs) (15 + r) 150 (by decide); omega)
  simp only [List.length_append, List.length_cons, List.length_nil, kl_2, kl_3, kl_4, kl_5, kl_6, kl_7, kl_11, kl_15, kl_16, kl_17, kl_18, kl_19, kl_20, kl_21, kl_22, kl_23, kl_24, kl_25, kl_26, kl_27, kl_28]
  omega
theorem s_room_eq (v : Nat → Nat → Nat) (r : Nat) : s_room v r = s_rh v r ++ (s_o8 v r ++ (s_o9 v r ++ (s_o10 v r ++ (s_o11 v r ++ ab_ks 3)))) := by
  unfold s_room s_rh
  simp only [List.append_assoc]
theorem s_room_ln (L : Nat) (xs : Nat → Int32) (r : Nat) : (s_room (dv L xs) r).length ≤ 65 := by
  have a := s_rh_ln L xs r
  have b := s_o8_ln L xs r
  have c := s_o9_ln L xs r
  have d := s_o10_ln L xs r
  have e := s_o11_ln L xs r
  rw [s_room_eq]
  simp only [List.length_append, kl_3]
  omega
theorem s_rooms_ln (L : Nat) (xs : Nat → Int32) : ∀ r, (s_rooms (dv L xs) r).length ≤ 65 * r
  | 0 => Nat.le_refl _
  | r + 1 => by
    have a := s_rooms_ln L xs r
    have b := s_room_ln L xs r
    show (s_rooms (dv L xs) r ++ s_room (dv L xs) r).length ≤ _
    rw [List.length_append]
    omega
theorem s_plan_ln (L : Nat) (xs : Nat → Int32) (k : Nat) : (s_plan (dv L xs) k).length ≤ 17 := by
  unfold s_plan
  have q1 := dec_3 (a := 1 + dv L xs (48 + k) 30) (by have := dv_lt (L := L) (xs := xs) (48 + k) 30 (by decide); omega)
  split
  · simp only [List.length_append, List.length_cons, List.length_nil, kl_2, kl_3, kl_4, kl_5, kl_6, kl_7, kl_11, kl_15, kl_16, kl_17, kl_18, kl_19, kl_20, kl_21, kl_22, kl_23, kl_24, kl_25, kl_26, kl_27, kl_28]
    omega
  · simp only [List.length_append, List.length_cons, List.length_nil, kl_2, kl_3, kl_4, kl_5, kl_6, kl_7, kl_11, kl_15, kl_16, kl_17, kl_18, kl_19, kl_20, kl_21, kl_22, kl_23, kl_24, kl_25, kl_26, kl_27, kl_28]
    omega
theorem s_plans_ln (L : Nat) (xs : Nat → Int32) : ∀ k, (s_plans (dv L xs) k).length ≤ 17 * k
  | 0 => Nat.le_refl _
  | k + 1 => by
    have a := s_plans_ln L xs k
    have b := s_plan_ln L xs k
    show (s_plans (dv L xs) k ++ s_plan (dv L xs) k).length ≤ _
    rw [List.length_append]
    omega
theorem ld_rooms {Q : ab_Q} {n0 L MC MS K0 Z0 : Nat} {xs : Nat → Int32} {S0 : SS} {l : List Int32} (hL : L < 2 ^ 31) (h0 : 269 ≤ n0) (h7 : n0 + 7 ≤ ab_CB) (hK : K0 + 5 ≤ MC) (hZ : Z0 + 1200 ≤ MS) (hl : l.length ≤ 80)
    (hQ : ∀ n' S' j' f' k' z', WB n0 S0 n' S' j' f' (l ++ s_rooms (dv L xs) (1 + dv L xs 0 3)) k' z' → WX (ab_XS L xs) RL cL_load 8 [] (ab_rm 11 MC MS) Q (K0 + k') (Z0 + z') 461 (LLs L xs (some (.int (nI (dv L xs 14 60)))) (some (.int (nI (1 + dv L xs 0 3)))) none) [] n' (Hp S')) :
    ∀ (q r n : Nat) (S : SS) (j : Nat) (f : Nat → Int32) (k z : Nat), r + q = (1 + dv L xs 0 3) → WB n0 S0 n S j f (l ++ s_rooms (dv L xs) r) k z → WX (ab_XS L xs) RL cL_load 8 [] (ab_rm 11 MC MS) Q (K0 + k) (Z0 + z) 265 (LLs L xs (some (.int (nI (dv L xs 14 60)))) (some (.int (nI r))) none) [] n (Hp S) := by
  have v0 := dv_lt (L := L) (xs := xs) 0 3 (by decide)
  intro q
  induction q with
  | zero =>
    intro r n S j f k z hr hw
    have e : r = (1 + dv L xs 0 3) := by omega
    subst e
    refine wa_iload dL_load_265 rfl ?_
    refine wa_iload_n dL_load_267 rfl ?_
    refine wa_icmp_ge 461 dL_load_268 rfl (fun c => ?_) (fun c => absurd (nI_leN (Nat.le_refl _) (by omega)) c)
    exact hQ _ _ _ _ _ _ hw
  | succ q ih =>
    intro r n S j f k z hr hw
    refine wa_iload dL_load_265 rfl ?_
    refine wa_iload_n dL_load_267 rfl ?_
    refine wa_icmp_ge 461 dL_load_268 rfl (fun c => absurd ((nI_leI (by omega) (by omega)).mp c) (by omega)) (fun c => ?_)
    have a0 := s_rooms_ln L xs r
    have a1 := s_rh_ln L xs r
    have a2 := s_o8_ln L xs r
    have a3 := s_o9_ln L xs r
    have a4 := s_o10_ln L xs r
    have a5 := s_o11_ln L xs r
    refine ld_rh hL h0 h7 hK hZ hw (by omega) (by simp only [List.length_append]; omega) (fun n1 S1 j1 f1 k1 z1 b1 w1 => ?_)
    refine ld_o8 hL h0 h7 hK hZ w1 (by omega) (by simp only [List.length_append]; omega) (fun n2 S2 j2 f2 k2 z2 b2 w2 => ?_)
    refine ld_o9 hL h0 h7 hK hZ w2 (by omega) (by simp only [List.length_append]; omega) (fun n3 S3 j3 f3 k3 z3 b3 w3 => ?_)
    refine ld_o10 hL h0 h7 hK hZ w3 (by omega) (by simp only [List.length_append]; omega) (fun n4 S4 j4 f4 k4 z4 b4 w4 => ?_)
    refine ld_o11 hL h0 h7 hK hZ w4 (by omega) (by simp only [List.length_append]; omega) (fun n5 S5 j5 f5 k5 z5 b5 w5 => ?_)
    refine ld_re hL h0 h7 hK hZ w5 (by omega) (by simp only [List.length_append]; omega) (fun n6 S6 j6 f6 k6 z6 b6 w6 => ?_)
    refine ih (r + 1) n6 S6 j6 f6 k6 z6 (by omega) ?_
    rw [show l ++ s_rooms (dv L xs) (r + 1) = l ++ s_rooms (dv L xs) r ++ s_rh (dv L xs) r ++ s_o8 (dv L xs) r ++ s_o9 (dv L xs) r ++ s_o10 (dv L xs) r ++ s_o11 (dv L xs) r ++ ab_ks 3 from by
      show l ++ (s_rooms (dv L xs) r ++ s_room (dv L xs) r) = _
      rw [s_room_eq]
      simp only [List.append_assoc]]
    exact w6
theorem ld_plan {Q : ab_Q} {n0 n j k z L MC MS K0 Z0 : Nat} {xs : Nat → Int32} {S0 S : SS} {f : Nat → Int32} {l : List Int32} (hL : L < 2 ^ 31) (h0 : 269 ≤ n0) (h7 : n0 + 7 ≤ ab_CB) (hK : K0 + 5 ≤ MC) (hZ : Z0 + 1200 ≤ MS) (hw : WB n0 S0 n S j f l k z) {r : Nat} (hr : r < 3) (hl : l.length ≤ 480) (hQ : ∀ n' S' j' f' k' z', n ≤ n' → WB n0 S0 n' S' j' f' (l ++ s_plan (dv L xs) r) k' z' → WX (ab_XS L xs) RL cL_load 8 [] (ab_rm 11 MC MS) Q (K0 + k') (Z0 + z') 565 (LLs L xs (some (.int (nI (dv L xs 14 60)))) (some (.int (nI (dv L xs 47 3)))) (some (.int (nI (r + 1))))) [] n' (Hp S')) : WX (ab_XS L xs) RL cL_load 8 [] (ab_rm 11 MC MS) Q (K0 + k) (Z0 + z) 572 (LLs L xs (some (.int (nI (dv L xs 14 60)))) (some (.int (nI (dv L xs 47 3)))) (some (.int (nI r)))) [] n (Hp S) := by
  obtain ⟨hn, hm, gk, gz⟩ := hw.lt h0 h7
  have v0 := dv_lt (L := L) (xs := xs) 0 3 (by decide)
  refine wa_aload_n dL_load_572 rfl ?_
  refine wa_ldcS (j := 25) dL_load_573 rfl ?_
  refine wx_k (k' := K0 + k) (z' := Z0 + z) rfl rfl ?_
  refine ap_S (K0 := K0) (Z0 := Z0) dL_load_575 lk_L_49 hn hw hm (by decide) hK hZ ko_25 (lx_k 25) (by simp only [List.length_append, List.length_cons, List.length_nil, kl_2, kl_3, kl_4, kl_5, kl_6, kl_7, kl_11, kl_15, kl_16, kl_17, kl_18, kl_19, kl_20, kl_21, kl_22, kl_23, kl_24, kl_25, kl_26, kl_27, kl_28]; omega) (by exact Nat.le_of_ble_eq_true rfl) (fun n1 S1 j1 f1 k1 z1 b1 w1 => ?_)
  obtain ⟨hn1, hm1, gk1, gz1⟩ := w1.lt h0 h7
  refine wa_iconst (x := 1) dL_load_578 (by decide) ?_
  refine wa_aload_n dL_load_579 rfl ?_
  refine wa_bipush (x := 48) dL_load_580 (by decide) ?_
  refine wa_iload dL_load_582 rfl ?_
  refine wa_iadd dL_load_584 ?_
  rw [show (48 : Int32) + nI (r) = nI (48 + r) from nI_addS 48 _]
  refine wa_bipush (x := 30) dL_load_585 (by decide) ?_
  refine x_SI (As := [.ref (ab_CB + 500000), .int (nI (48 + r)), .int (nI (30))]) dL_load_587 (ab_XS_M _ _) (yl_draw (k := 48 + r) (m := 30) hL (by omega) (by decide) (by decide)) lk_L_40 rfl ?_
  have q587 := dv_lt (L := L) (xs := xs) (48 + r) (30) (by decide)
  refine wa_iadd dL_load_590 ?_
  rw [show (1 : Int32) + nI (dv L xs (48 + r) 30) = nI (1 + dv L xs (48 + r) 30) from nI_addS 1 _]
  have t591 := dec_3 (a := 1 + dv L xs (48 + r) 30) (by omega)
  refine wx_k (k' := K0 + k1) (z' := Z0 + z1) rfl rfl ?_
  refine ap_I (K0 := K0) (Z0 := Z0) dL_load_591 lk_L_52 hn1 w1 hm1 (by decide) hK hZ (nI_abs (by omega)) (by simp only [List.length_append, List.length_cons, List.length_nil, kl_2, kl_3, kl_4, kl_5, kl_6, kl_7, kl_11, kl_15, kl_16, kl_17, kl_18, kl_19, kl_20, kl_21, kl_22, kl_23, kl_24, kl_25, kl_26, kl_27, kl_28]; omega) (by exact Nat.le_of_ble_eq_true rfl) (fun n2 S2 j2 f2 k2 z2 b2 w2 => ?_)
  obtain ⟨hn2, hm2, gk2, gz2⟩ := w2.lt h0 h7
  refine wa_ldcS (j := 26) dL_load_594 rfl ?_
  refine wx_k (k' := K0 + k2) (z' := Z0 + z2) rfl rfl ?_
  refine ap_S (K0 := K0) (Z0 := Z0) dL_load_596 lk_L_49 hn2 w2 hm2 (by decide) hK hZ ko_26 (lx_k 26) (by simp only [List.length_append, List.length_cons, List.length_nil, kl_2, kl_3, kl_4, kl_5, kl_6, kl_7, kl_11, kl_15, kl_16, kl_17, kl_18, kl_19, kl_20, kl_21, kl_22, kl_23, kl_24, kl_25, kl_26, kl_27, kl_28]; omega) (by exact Nat.le_of_ble_eq_true rfl) (fun n3 S3 j3 f3 k3 z3 b3 w3 => ?_)
  obtain ⟨hn3, hm3, gk3, gz3⟩ := w3.lt h0 h7
  refine wa_aload_n dL_load_599 rfl ?_
  refine wa_bipush (x := 50) dL_load_600 (by decide) ?_
  refine wa_iload dL_load_602 rfl ?_
  refine wa_iadd dL_load_604 ?_
  rw [show (50 : Int32) + nI (r) = nI (50 + r) from nI_addS 50 _]
  refine wa_iload_n dL_load_605 rfl ?_
  refine x_SI (As := [.ref (ab_CB + 500000), .int (nI (50 + r)), .int (nI (1 + dv L xs 0 3))]) dL_load_606 (ab_XS_M _ _) (yl_draw (k := 50 + r) (m := 1 + dv L xs 0 3) hL (by omega) (by omega) (by omega)) lk_L_40 rfl ?_
  have q606 := dv_lt (L := L) (xs := xs) (50 + r) (1 + dv L xs 0 3) (by omega)
  refine c_SI (As := [.int (nI (dv L xs (50 + r) (1 + dv L xs 0 3)))]) dL_load_609 (yl_name (r := dv L xs (50 + r) (1 + dv L xs 0 3)) (by omega)) lk_L_71 rfl ?_
  refine wx_k (k' := K0 + k3) (z' := Z0 + z3) rfl rfl ?_
  refine ap_C (K0 := K0) (Z0 := Z0) dL_load_612 lk_L_74 hn3 w3 hm3 (by decide) hK hZ (let_by _ (by omega)) (by simp only [List.length_append, List.length_cons, List.length_nil, kl_2, kl_3, kl_4, kl_5, kl_6, kl_7, kl_11, kl_15, kl_16, kl_17, kl_18, kl_19, kl_20, kl_21, kl_22, kl_23, kl_24, kl_25, kl_26, kl_27, kl_28]; omega) (by exact Nat.le_of_ble_eq_true rfl) (fun n4 S4 j4 f4 k4 z4 b4 w4 => ?_)
  obtain ⟨hn4, hm4, gk4, gz4⟩ := w4.lt h0 h7
  refine wa_aload_n dL_load_615 rfl ?_
  refine wa_bipush (x := 52) dL_load_616 (by decide) ?_
  refine wa_iload dL_load_618 rfl ?_
  refine wa_iadd dL_load_620 ?_
  rw [show (52 : Int32) + nI (r) = nI (52 + r) from nI_addS 52 _]
  refine wa_iconst (x := 2) dL_load_621 (by decide) ?_
  refine x_SI (As := [.ref (ab_CB + 500000), .int (nI (52 + r)), .int (nI (2))]) dL_load_622 (ab_XS_M _ _) (yl_draw (k := 52 + r) (m := 2) hL (by omega) (by decide) (by decide)) lk_L_40 rfl ?_
  have q622 := dv_lt (L := L) (xs := xs) (52 + r) (2) (by decide)
  have tail : ∀ nx Sx jx fx kx zx lit, n ≤ nx → WB n0 S0 nx Sx jx fx (l ++ ab_ks 25 ++ decI (nI (1 + dv L xs (48 + r) 30)) ++ ab_ks 26 ++ [nI (97 + dv L xs (50 + r) (1 + dv L xs 0 3))] ++ lit) kx zx → lit = (if dv L xs (52 + r) 2 = 0 then ab_ks 27 else ab_ks 28) → WX (ab_XS L xs) RL cL_load 8 [] (ab_rm 11 MC MS) Q (K0 + kx) (Z0 + zx) 638 (LLs L xs (some (.int (nI (dv L xs 14 60)))) (some (.int (nI (dv L xs 47 3)))) (some (.int (nI r)))) [.ref 267] nx (Hp Sx) := by
    intro nx Sx jx fx kx zx lit hx wx ex
    refine wa_pop dL_load_638 rfl ?_
    refine wa_iinc (y := 1) dL_load_639 rfl (by decide) rfl ?_
    refine wa_goto 565 dL_load_642 rfl ?_
    rw [show nI r + 1 = nI (r + 1) from nI_addS r 1]
    refine hQ nx Sx jx fx kx zx hx ?_
    rw [show l ++ s_plan (dv L xs) r = l ++ ab_ks 25 ++ decI (nI (1 + dv L xs (48 + r) 30)) ++ ab_ks 26 ++ [nI (97 + dv L xs (50 + r) (1 + dv L xs 0 3))] ++ lit from by unfold s_plan; rw [ex]; simp only [List.append_assoc]]
    exact wx
  by_cases hc : dv L xs (52 + r) 2 = 0
  · refine wa_if_ne 633 dL_load_625 rfl (fun c => absurd (show nI (dv L xs (52 + r) 2) = 0 by rw [hc]; rfl) c) (fun c => ?_)
    refine wa_ldcS (j := 27) dL_load_628 rfl ?_
    refine wa_goto 635 dL_load_630 rfl ?_
    refine wx_k (k' := K0 + k4) (z' := Z0 + z4) rfl rfl ?_
    refine ap_S (K0 := K0) (Z0 := Z0) dL_load_635 lk_L_49 hn4 w4 hm4 (by decide) hK hZ ko_27 (lx_k 27) (by simp only [List.length_append, List.length_cons, List.length_nil, kl_2, kl_3, kl_4, kl_5, kl_6, kl_7, kl_11, kl_15, kl_16, kl_17, kl_18, kl_19, kl_20, kl_21, kl_22, kl_23, kl_24, kl_25, kl_26, kl_27, kl_28]; omega) (by exact Nat.le_of_ble_eq_true rfl) (fun n5 S5 j5 f5 k5 z5 b5 w5 => ?_)
    obtain ⟨hn5, hm5, gk5, gz5⟩ := w5.lt h0 h7
    exact tail _ _ _ _ _ _ _ (by omega) w5 (by rw [if_pos hc])
  · refine wa_if_ne 633 dL_load_625 rfl (fun c => ?_) (fun c => absurd c (nI_ne0 (Nat.pos_of_ne_zero hc) (by omega)))
    refine wa_ldcS (j := 28) dL_load_633 rfl ?_
    refine wx_k (k' := K0 + k4) (z' := Z0 + z4) rfl rfl ?_
    refine ap_S (K0 := K0) (Z0 := Z0) dL_load_635 lk_L_49 hn4 w4 hm4 (by decide) hK hZ ko_28 (lx_k 28) (by simp only [List.length_append, List.length_cons, List.length_nil, kl_2, kl_3, kl_4, kl_5, kl_6, kl_7, kl_11, kl_15, kl_16, kl_17, kl_18, kl_19, kl_20, kl_21, kl_22, kl_23, kl_24, kl_25, kl_26, kl_27, kl_28]; omega) (by exact Nat.le_of_ble_eq_true rfl) (fun n5 S5 j5 f5 k5 z5 b5 w5 => ?_)
    obtain ⟨hn5, hm5, gk5, gz5⟩ := w5.lt h0 h7
    exact tail _ _ _ _ _ _ _ (by omega) w5 (by rw [if_neg hc])
theorem ld_plans {Q : ab_Q} {n0 L MC MS K0 Z0 : Nat} {xs : Nat → Int32} {S0 : SS} {l : List Int32} (hL : L < 2 ^ 31) (h0 : 269 ≤ n0) (h7 : n0 + 7 ≤ ab_CB) (hK : K0 + 5 ≤ MC) (hZ : Z0 + 1200 ≤ MS) (hl : l.length ≤ 400)
    (hQ : ∀ n' S' j' f' k' z', WB n0 S0 n' S' j' f' (l ++ s_plans (dv L xs) (dv L xs 47 3)) k' z' → WX (ab_XS L xs) RL cL_load 8 [] (ab_rm 11 MC MS) Q (K0 + k') (Z0 + z') 645 (LLs L xs (some (.int (nI (dv L xs 14 60)))) (some (.int (nI (dv L xs 47 3)))) (some (.int (nI (dv L xs 47 3))))) [] n' (Hp S')) :
    ∀ (q r n : Nat) (S : SS) (j : Nat) (f : Nat → Int32) (k z : Nat), r + q = dv L xs 47 3 → WB n0 S0 n S j f (l ++ s_plans (dv L xs) r) k z → WX (ab_XS L xs) RL cL_load 8 [] (ab_rm 11 MC MS) Q (K0 + k) (Z0 + z) 565 (LLs L xs (some (.int (nI (dv L xs 14 60)))) (some (.int (nI (dv L xs 47 3)))) (some (.int (nI r)))) [] n (Hp S) := by
  have v0 := dv_lt (L := L) (xs := xs) 47 3 (by decide)
  intro q
  induction q with
  | zero =>
    intro r n S j f k z hr hw
    have e : r = dv L xs 47 3 := by omega
    subst e
    refine wa_iload dL_load_565 rfl ?_
    refine wa_iload dL_load_567 rfl ?_
    refine wa_icmp_ge 645 dL_load_569 rfl (fun c => ?_) (fun c => absurd (nI_leN (Nat.le_refl _) (by omega)) c)
    exact hQ _ _ _ _ _ _ hw
  | succ q ih =>
    intro r n S j f k z hr hw
    refine wa_iload dL_load_565 rfl ?_
    refine wa_iload dL_load_567 rfl ?_
    refine wa_icmp_ge 645 dL_load_569 rfl (fun c => absurd ((nI_leI (by omega) (by omega)).mp c) (by omega)) (fun c => ?_)
    have a0 := s_plans_ln L xs r
    refine ld_plan hL h0 h7 hK hZ hw (by omega) (by simp only [List.length_append]; omega) (fun n1 S1 j1 f1 k1 z1 b1 w1 => ?_)
    refine ih (r + 1) n1 S1 j1 f1 k1 z1 (by omega) ?_
    rw [show l ++ s_plans (dv L xs) (r + 1) = l ++ s_plans (dv L xs) r ++ s_plan (dv L xs) r from by
      show l ++ (s_plans (dv L xs) r ++ s_plan (dv L xs) r) = _
      rw [List.append_assoc]]
    exact w1
