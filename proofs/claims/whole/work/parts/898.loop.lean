/-! THE LAW'S LOOP. Written by program (wip/whole/gen/m898.py) but for the heads. -/
theorem and63 (x : Int32) : ∃ w, w < 64 ∧ x &&& 63 = nI w := by
  refine ⟨x.toBitVec.toNat % 64, Nat.mod_lt _ (by decide), ?_⟩
  refine Int32.toBitVec_inj.mp (BitVec.eq_of_toNat_eq ?_)
  rw [Int32.toBitVec_and, BitVec.toNat_and]
  have e1 : (63 : Int32).toBitVec.toNat = 2 ^ 6 - 1 := by decide
  rw [e1, Nat.and_two_pow_sub_one_eq_mod]
  show x.toBitVec.toNat % 2 ^ 6 = (BitVec.ofNat 32 (x.toBitVec.toNat % 64)).toNat
  rw [BitVec.toNat_ofNat]
  have h : x.toBitVec.toNat % 64 < 64 := Nat.mod_lt _ (by decide)
  have e2 : (2 : Nat) ^ 6 = 64 := by decide
  rw [e2, Nat.mod_eq_of_lt (show x.toBitVec.toNat % 64 < 2 ^ 32 by omega)]
/-- the law's end -/
def lawQ : ab_Q := fun r k z _ _ => r = .inl (some (.int 1)) ∧ k ≤ 601024 ∧ z ≤ 7293034
def LCT (pc : Nat) : Prop := ∀ {L : Nat} {xs : Nat → Int32} {Q : ab_Q} {k z n i c : Nat} {a b c1 d : Option Value} {S : SS} {T : Int}, i + 6 ≤ L → L ≤ 3072 → INV T n c S → 0 ≤ T → T ≤ 110000 → k + 80 ≤ 601024 → z + 13300 ≤ 7293034 → n + 80 ≤ 900000 → LK L xs Q T n k z i → LX L xs Q k z pc (lsL i a b c1 d) [] n (Hp S)
theorem law_case (h29 : LCT 1751) (h30 : LCT 1792) {L : Nat} {xs : Nat → Int32} {Q : ab_Q} {k z n i c : Nat} {a b c1 d : Option Value} {S : SS} {T : Int} (hi : i + 6 ≤ L) (hL : L ≤ 3072) (hI : INV T n c S) (hT0 : 0 ≤ T) (hT : T ≤ 110000) (hk : k + 80 ≤ 601024) (hz : z + 13300 ≤ 7293034) (hnb : n + 80 ≤ 900000) (hQ : LK L xs Q T n k z i) {w : Nat} (hw : w < 64) : LX L xs Q k z 45 (lsL i a b c1 d) [.int (nI w)] n (Hp S) := by
  by_cases h52 : w < 52
  · match w, h52 with
    | 0, _ => exact wa_tableIn 268 dL_law_45 (by decide) (by decide) rfl rfl (lc_append hi hL hI hT0 hT hk hz hnb hQ)
    | 1, _ => exact wa_tableIn 372 dL_law_45 (by decide) (by decide) rfl rfl (lc_truncate hi hL hI hT0 hT hk hz hnb hQ)
    | 2, _ => exact wa_tableIn 408 dL_law_45 (by decide) (by decide) rfl rfl (lc_load hi hL hI hT0 hT hk hz hnb hQ)
    | 3, _ => exact wa_tableIn 421 dL_law_45 (by decide) (by decide) rfl rfl (lc_errorCode hi hL hI hT0 hT hk hz hnb hQ)
    | 4, _ => exact wa_tableIn 434 dL_law_45 (by decide) (by decide) rfl rfl (lc_errorPosition hi hL hI hT0 hT hk hz hnb hQ)
    | 5, _ => exact wa_tableIn 447 dL_law_45 (by decide) (by decide) rfl rfl (lc_find hi hL hI hT0 hT hk hz hnb hQ)
    | 6, _ => exact wa_tableIn 460 dL_law_45 (by decide) (by decide) rfl rfl (lc_property hi hL hI hT0 hT hk hz hnb hQ)
    | 7, _ => exact wa_tableIn 516 dL_law_45 (by decide) (by decide) rfl rfl (lc_room hi hL hI hT0 hT hk hz hnb hQ)
    | 8, _ => exact wa_tableIn 584 dL_law_45 (by decide) (by decide) rfl rfl (lc_count hi hL hI hT0 hT hk hz hnb hQ)
    | 9, _ => exact wa_tableIn 652 dL_law_45 (by decide) (by decide) rfl rfl (lc_target hi hL hI hT0 hT hk hz hnb hQ)
    | 10, _ => exact wa_tableIn 708 dL_law_45 (by decide) (by decide) rfl rfl (lc_programmed hi hL hI hT0 hT hk hz hnb hQ)
    | 11, _ => exact wa_tableIn 776 dL_law_45 (by decide) (by decide) rfl rfl (lc_entry hi hL hI hT0 hT hk hz hnb hQ)
    | 12, _ => exact wa_tableIn 844 dL_law_45 (by decide) (by decide) rfl rfl (lc_wanted hi hL hI hT0 hT hk hz hnb hQ)
    | 13, _ => exact wa_tableIn 900 dL_law_45 (by decide) (by decide) rfl rfl (lc_why hi hL hI hT0 hT hk hz hnb hQ)
    | 14, _ => exact wa_tableIn 956 dL_law_45 (by decide) (by decide) rfl rfl (lc_planned hi hL hI hT0 hT hk hz hnb hQ)
    | 15, _ => exact wa_tableIn 1024 dL_law_45 (by decide) (by decide) rfl rfl (lc_tempIn hi hL hI hT0 hT hk hz hnb hQ)
    | 16, _ => exact wa_tableIn 1092 dL_law_45 (by decide) (by decide) rfl rfl (lc_valveIn hi hL hI hT0 hT hk hz hnb hQ)
    | 17, _ => exact wa_tableIn 1160 dL_law_45 (by decide) (by decide) rfl rfl (lc_warmIn hi hL hI hT0 hT hk hz hnb hQ)
    | 18, _ => exact wa_tableIn 1216 dL_law_45 (by decide) (by decide) rfl rfl (lc_emptyIn hi hL hI hT0 hT hk hz hnb hQ)
    | 19, _ => exact wa_tableIn 1272 dL_law_45 (by decide) (by decide) rfl rfl (lc_exerciseIn hi hL hI hT0 hT hk hz hnb hQ)
    | 20, _ => exact wa_tableIn 1328 dL_law_45 (by decide) (by decide) rfl rfl (lc_lack hi hL hI hT0 hT hk hz hnb hQ)
    | 21, _ => exact wa_tableIn 1396 dL_law_45 (by decide) (by decide) rfl rfl (lc_heatIn hi hL hI hT0 hT hk hz hnb hQ)
    | 22, _ => exact wa_tableIn 1452 dL_law_45 (by decide) (by decide) rfl rfl (lc_bestGain hi hL hI hT0 hT hk hz hnb hQ)
    | 23, _ => exact wa_tableIn 1508 dL_law_45 (by decide) (by decide) rfl rfl (lc_tempIf hi hL hI hT0 hT hk hz hnb hQ)
    | 24, _ => exact wa_tableIn 1588 dL_law_45 (by decide) (by decide) rfl rfl (lc_coldBy hi hL hI hT0 hT hk hz hnb hQ)
    | 25, _ => exact wa_tableIn 1656 dL_law_45 (by decide) (by decide) rfl rfl (lc_coldest hi hL hI hT0 hT hk hz hnb hQ)
    | 26, _ => exact wa_tableIn 1669 dL_law_45 (by decide) (by decide) rfl rfl (lc_farthest hi hL hI hT0 hT hk hz hnb hQ)
    | 27, _ => exact wa_tableIn 1682 dL_law_45 (by decide) (by decide) rfl rfl (lc_weakest hi hL hI hT0 hT hk hz hnb hQ)
    | 28, _ => exact wa_tableIn 1695 dL_law_45 (by decide) (by decide) rfl rfl (lc_sum hi hL hI hT0 hT hk hz hnb hQ)
    | 29, _ => exact wa_tableIn 1751 dL_law_45 (by decide) (by decide) rfl rfl (h29 hi hL hI hT0 hT hk hz hnb hQ)
    | 30, _ => exact wa_tableIn 1792 dL_law_45 (by decide) (by decide) rfl rfl (h30 hi hL hI hT0 hT hk hz hnb hQ)
    | 31, _ => exact wa_tableIn 1870 dL_law_45 (by decide) (by decide) rfl rfl (lc_reckoned hi hL hI hT0 hT hk hz hnb hQ)
    | 32, _ => exact wa_tableIn 1926 dL_law_45 (by decide) (by decide) rfl rfl (lc_tick hi hL hI hT0 hT hk hz hnb hQ)
    | 33, _ => exact wa_tableIn 1982 dL_law_45 (by decide) (by decide) rfl rfl (lc_setProgram hi hL hI hT0 hT hk hz hnb hQ)
    | 34, _ => exact wa_tableIn 2062 dL_law_45 (by decide) (by decide) rfl rfl (lc_clearProgram hi hL hI hT0 hT hk hz hnb hQ)
    | 35, _ => exact wa_tableIn 2130 dL_law_45 (by decide) (by decide) rfl rfl (lc_override hi hL hI hT0 hT hk hz hnb hQ)
    | 36, _ => exact wa_tableIn 2210 dL_law_45 (by decide) (by decide) rfl rfl (lc_setWindow hi hL hI hT0 hT hk hz hnb hQ)
    | 37, _ => exact wa_tableIn 2301 dL_law_45 (by decide) (by decide) rfl rfl (lc_setPresent hi hL hI hT0 hT hk hz hnb hQ)
    | 38, _ => exact wa_tableIn 2385 dL_law_45 (by decide) (by decide) rfl rfl (lc_plan hi hL hI hT0 hT hk hz hnb hQ)
    | 39, _ => exact wa_tableIn 2465 dL_law_45 (by decide) (by decide) rfl rfl (lc_dropPlan hi hL hI hT0 hT hk hz hnb hQ)
    | 40, _ => exact wa_tableIn 2521 dL_law_45 (by decide) (by decide) rfl rfl (lc_setOutside hi hL hI hT0 hT hk hz hnb hQ)
    | 41, _ => exact wa_tableIn 2577 dL_law_45 (by decide) (by decide) rfl rfl (lc_setControl hi hL hI hT0 hT hk hz hnb hQ)
    | 42, _ => exact wa_tableIn 2657 dL_law_45 (by decide) (by decide) rfl rfl (lc_newBattery hi hL hI hT0 hT hk hz hnb hQ)
    | 43, _ => exact wa_tableIn 2725 dL_law_45 (by decide) (by decide) rfl rfl (lc_turn hi hL hI hT0 hT hk hz hnb hQ)
    | 44, _ => exact wa_tableIn 2793 dL_law_45 (by decide) (by decide) rfl rfl (lc_keep hi hL hI hT0 hT hk hz hnb hQ)
    | 45, _ => exact wa_tableIn 2849 dL_law_45 (by decide) (by decide) rfl rfl (lc_restore hi hL hI hT0 hT hk hz hnb hQ)
    | 46, _ => exact wa_tableIn 2905 dL_law_45 (by decide) (by decide) rfl rfl (lc_undo hi hL hI hT0 hT hk hz hnb hQ)
    | 47, _ => exact wa_tableIn 2949 dL_law_45 (by decide) (by decide) rfl rfl (lc_undoCount hi hL hI hT0 hT hk hz hnb hQ)
    | 48, _ => exact wa_tableIn 2962 dL_law_45 (by decide) (by decide) rfl rfl (lc_writeRooms hi hL hI hT0 hT hk hz hnb hQ)
    | 49, _ => exact wa_tableIn 2975 dL_law_45 (by decide) (by decide) rfl rfl (lc_writeProgram hi hL hI hT0 hT hk hz hnb hQ)
    | 50, _ => exact wa_tableIn 3031 dL_law_45 (by decide) (by decide) rfl rfl (lc_writePlans hi hL hI hT0 hT hk hz hnb hQ)
    | 51, _ => exact wa_tableIn 3044 dL_law_45 (by decide) (by decide) rfl rfl (lc_outputByte hi hL hI hT0 hT hk hz hnb hQ)
    | w + 52, h => exact absurd h (by omega)
  · refine wa_tableOut 3100 dL_law_45 (Or.inr ?_) rfl (hQ _ _ _ _ _ _ _ _ _ (Nat.le_refl _) (by omega) (by omega) (by omega) (hI.mono (by omega) (Nat.le_refl _) hI.1.2.1))
    rw [nI_toInt (by omega)]
    omega
set_option maxRecDepth 100000 in
theorem law_loop (h29 : LCT 1751) (h30 : LCT 1792) {L : Nat} {xs : Nat → Int32} (hL : L ≤ 3072) : ∀ (r t : Nat), t + r = L / 6 → ∀ (k z n c : Nat) (S : SS) (a b c1 d : Option Value), INV ((200 * t : Nat) : Int) n c S → n ≤ 279 + 80 * t → k ≤ 279 + 80 * t → z ≤ 14700 + 13300 * t → LX L xs lawQ k z 28 (lsL (6 * t) a b c1 d) [] n (Hp S) := by
  have hsub : (Int32.ofNat L - 6).toInt = (L : Int) - 6 := by
    have k6 : (6 : Int32).toInt = 6 := by decide
    have eL : (Int32.ofNat L).toInt = (L : Int) := nI_toInt (by omega)
    rw [i_sub (by rw [eL, k6]; omega) (by rw [eL, k6]; omega), eL, k6]
  have head : ∀ {k z n t : Nat} {S : SS} {a b c1 d : Option Value}, t ≤ 512 → (6 * t + 6 ≤ L → LX L xs lawQ k z 38 (lsL (6 * t) a b c1 d) [] n (Hp S)) → (¬ 6 * t + 6 ≤ L → LX L xs lawQ k z 3106 (lsL (6 * t) a b c1 d) [] n (Hp S)) → LX L xs lawQ k z 28 (lsL (6 * t) a b c1 d) [] n (Hp S) := by
    intro k z n t S a b c1 d ht h1 h2
    refine wa_iload dL_law_28 rfl ?_
    refine wa_aload_n dL_law_30 rfl ?_
    refine wx_slen dL_law_31 rfl ?_
    refine wa_bipush (x := 6) dL_law_32 (by decide) ?_
    refine wa_isub dL_law_34 ?_
    refine wa_icmp_gt 3106 dL_law_35 rfl (fun q => h2 ?_) (fun q => h1 ?_)
    · rw [Int32.lt_iff_toInt_lt, hsub, nI_toInt (by omega)] at q
      omega
    · rw [Int32.lt_iff_toInt_lt, hsub, nI_toInt (by omega)] at q
      omega
  intro r
  induction r with
  | zero =>
    intro t ht k z n c S a b c1 d hI hn hk hz
    refine head (by omega) (fun q => by omega) (fun _ => ?_)
    refine wa_iconst (x := 1) dL_law_3106 (by decide) ?_
    exact wa_ireturn dL_law_3107 ⟨rfl, by omega, by omega⟩
  | succ r ih =>
    intro t ht k z n c S a b c1 d hI hn hk hz
    refine head (by omega) (fun q => ?_) (fun q => by omega)
    refine wa_aload_n dL_law_38 rfl ?_
    refine wa_iload dL_law_39 rfl ?_
    refine wx_sld (j := 6 * t) dL_law_41 (nI_toInt (by omega)) (by omega) ?_
    refine wa_bipush (x := 63) dL_law_42 (by decide) ?_
    refine wa_iand dL_law_44 ?_
    obtain ⟨w, hw, ew⟩ := and63 (xs (6 * t))
    rw [ew]
    refine law_case h29 h30 (by omega) hL hI (by omega) (by omega) (by omega) (by omega) (by omega) (fun n' c' S' k' z' a' b' c1' d' q1 q2 q3 q4 hI' => ?_) hw
    refine wa_iinc (y := 6) dL_law_3100 rfl (by decide) rfl ?_
    refine wa_goto 28 dL_law_3103 rfl ?_
    have e6 : nI (6 * t) + 6 = nI (6 * (t + 1)) := (nI_addS (6 * t) 6).trans (congrArg nI (by omega))
    rw [e6]
    exact ih (t + 1) (by omega) k' z' n' c' S' a' b' c1' d' (hI'.mono (by omega) (Nat.le_refl _) hI'.1.2.1) (by omega) (by omega) (by omega)
