/-! ValveRoomModel: good, errs, byteAt, scan, goNext. Written by program (wip/whole/gen/m625.py) but for the heads. -/
def BY (b : Nat → Int32) (N : Nat) : Prop := ∀ k, k < N → -128 ≤ (b k).toInt ∧ (b k).toInt < 128
theorem u8 {x : Int32} (h0 : -128 ≤ x.toInt) (h1 : x.toInt < 128) : (x &&& 255).toInt = if x.toInt < 0 then x.toInt + 256 else x.toInt := by
  have e : x = Int32.ofInt ((((x.toInt + 128).toNat : Nat) : Int) - 128) := by
    rw [Int.toNat_of_nonneg (by omega), show x.toInt + 128 - 128 = x.toInt by omega]
    exact (Int32.ofInt_toInt x).symm
  have hk : (x.toInt + 128).toNat < 256 := by omega
  rw [e]
  generalize (x.toInt + 128).toNat = k at hk
  exact (by decide +kernel : ∀ k : Nat, k < 256 → ((Int32.ofInt ((k : Int) - 128)) &&& 255).toInt = if (Int32.ofInt ((k : Int) - 128)).toInt < 0 then (Int32.ofInt ((k : Int) - 128)).toInt + 256 else (Int32.ofInt ((k : Int) - 128)).toInt) k hk
/-- the byte at q as the reference has it -/
def bat (b : Nat → Int32) (N q : Nat) : Int32 := if q < N then b q &&& 255 else -1
theorem e2i {x y : Int32} : x = y ↔ x.toInt = y.toInt := Int32.toInt_inj.symm
theorem inr_i {x lo hi : Int32} : inr x lo hi ↔ lo.toInt ≤ x.toInt ∧ x.toInt ≤ hi.toInt := by
  unfold inr
  rw [Int32.le_iff_toInt_le, Int32.le_iff_toInt_le]
theorem l32 : (32 : Int32).toInt = 32 := by decide
theorem l10 : (10 : Int32).toInt = 10 := by decide
theorem l97 : (97 : Int32).toInt = 97 := by decide
theorem l122 : (122 : Int32).toInt = 122 := by decide
theorem l48 : (48 : Int32).toInt = 48 := by decide
theorem l57 : (57 : Int32).toInt = 57 := by decide
theorem lm1 : (-1 : Int32).toInt = -1 := by decide
theorem bat_i {b : Nat → Int32} {N q : Nat} (hB : BY b N) : (bat b N q).toInt = if q < N then (if (b q).toInt < 0 then (b q).toInt + 256 else (b q).toInt) else -1 := by
  unfold bat
  by_cases h : q < N
  · rw [if_pos h, if_pos h]; exact u8 (hB q h).1 (hB q h).2
  · rw [if_neg h, if_neg h]; exact lm1
theorem kdi (x : Int32) : kd x = if x.toInt = 32 ∨ x.toInt = 10 then 0 else if 97 ≤ x.toInt ∧ x.toInt ≤ 122 then 1 else if 48 ≤ x.toInt ∧ x.toInt ≤ 57 then 2 else 3 := by
  have a0 : (x = 32 ∨ x = 10) ↔ (x.toInt = 32 ∨ x.toInt = 10) := by rw [e2i, e2i, l32, l10]
  have a1 : inr x 97 122 ↔ (97 ≤ x.toInt ∧ x.toInt ≤ 122) := by rw [inr_i, l97, l122]
  have a2 : inr x 48 57 ↔ (48 ≤ x.toInt ∧ x.toInt ≤ 57) := by rw [inr_i, l48, l57]
  unfold kd
  exact ite_congr (propext a0) (fun _ => rfl) (fun _ => ite_congr (propext a1) (fun _ => rfl) (fun _ => ite_congr (propext a2) (fun _ => rfl) (fun _ => rfl)))
theorem kd_0 {x : Int32} : kd x = 0 ↔ x.toInt = 32 ∨ x.toInt = 10 := by
  rw [kdi]
  split
  · exact ⟨fun _ => by assumption, fun _ => rfl⟩
  · split
    · exact ⟨fun z => absurd z (by decide), fun z => absurd z (by assumption)⟩
    · split
      · exact ⟨fun z => absurd z (by decide), fun z => absurd z (by assumption)⟩
      · exact ⟨fun z => absurd z (by decide), fun z => absurd z (by assumption)⟩
theorem kd_1 {x : Int32} : kd x = 1 ↔ 97 ≤ x.toInt ∧ x.toInt ≤ 122 := by
  rw [kdi]
  split
  · exact ⟨fun z => absurd z (by decide), fun z => by omega⟩
  · split
    · exact ⟨fun _ => by assumption, fun _ => rfl⟩
    · split
      · exact ⟨fun z => absurd z (by decide), fun z => absurd z (by assumption)⟩
      · exact ⟨fun z => absurd z (by decide), fun z => absurd z (by assumption)⟩
theorem kd_2 {x : Int32} : kd x = 2 ↔ 48 ≤ x.toInt ∧ x.toInt ≤ 57 := by
  rw [kdi]
  split
  · exact ⟨fun z => absurd z (by decide), fun z => by omega⟩
  · split
    · exact ⟨fun z => absurd z (by decide), fun z => by omega⟩
    · split
      · exact ⟨fun _ => by assumption, fun _ => rfl⟩
      · exact ⟨fun z => absurd z (by decide), fun z => absurd z (by assumption)⟩
theorem kd_le (x : Int32) : kd x ≤ 3 := by
  unfold kd
  split
  · omega
  · split
    · omega
    · split <;> omega
theorem bat_0 {b : Nat → Int32} {N q : Nat} (hB : BY b N) : (bat b N q = 32 ∨ bat b N q = 10) ↔ (q < N ∧ kd (b q) = 0) := by
  rw [e2i, e2i, bat_i hB, kd_0, l32, l10]
  by_cases h : q < N
  · have := hB q h
    rw [if_pos h]
    split <;> omega
  · rw [if_neg h]; omega
theorem bat_1 {b : Nat → Int32} {N q : Nat} (hB : BY b N) : inr (bat b N q) 97 122 ↔ (q < N ∧ kd (b q) = 1) := by
  rw [inr_i, bat_i hB, kd_1, l97, l122]
  by_cases h : q < N
  · have := hB q h
    rw [if_pos h]
    split <;> omega
  · rw [if_neg h]; omega
theorem bat_2 {b : Nat → Int32} {N q : Nat} (hB : BY b N) : inr (bat b N q) 48 57 ↔ (q < N ∧ kd (b q) = 2) := by
  rw [inr_i, bat_i hB, kd_2, l48, l57]
  by_cases h : q < N
  · have := hB q h
    rw [if_pos h]
    split <;> omega
  · rw [if_neg h]; omega
theorem bat_n {b : Nat → Int32} {N q : Nat} (hB : BY b N) : bat b N q = -1 ↔ ¬ q < N := by
  rw [e2i, bat_i hB, lm1]
  by_cases h : q < N
  · have := hB q h
    rw [if_pos h]
    split <;> omega
  · rw [if_neg h]; omega
/-- the parse's frame: what no step of it writes; the bytes, their number -/
def FRP (b : Nat → Int32) (N : Nat) (S0 S : SS) : Prop := S.2 = S0.2 ∧ mr S0 = 269 ∧ (∀ k, ¬ k = 267 → ¬ k = 269 → ¬ k = 272 → S.1 k = S0.1 k) ∧ (∀ j, (j < 8 ∨ 13 < j) → S.1 267 j = S0.1 267 j) ∧ S0.1 267 7 = nI N ∧ N ≤ 500 ∧ S0.1 271 = b ∧ BY b N
theorem FRP.mr {b : Nat → Int32} {N : Nat} {S0 S : SS} (h : FRP b N S0 S) : mr S = 269 := (mr_2 h.1).trans h.2.1
theorem FRP.row {b : Nat → Int32} {N : Nat} {S0 S : SS} (h : FRP b N S0 S) : row S = S.1 269 := congrArg S.1 h.mr
theorem FRP.n7 {b : Nat → Int32} {N : Nat} {S0 S : SS} (h : FRP b N S0 S) : S.1 267 7 = nI N := (h.2.2.2.1 7 (by decide)).trans h.2.2.2.2.1
theorem FRP.in {b : Nat → Int32} {N : Nat} {S0 S : SS} (h : FRP b N S0 S) : S.1 271 = b := (h.2.2.1 271 (by decide) (by decide) (by decide)).trans h.2.2.2.2.2.2.1
theorem FRP.le {b : Nat → Int32} {N : Nat} {S0 S : SS} (h : FRP b N S0 S) : N ≤ 500 := h.2.2.2.2.2.1
theorem FRP.by {b : Nat → Int32} {N : Nat} {S0 S : SS} (h : FRP b N S0 S) : BY b N := h.2.2.2.2.2.2.2
theorem FRP.w {b : Nat → Int32} {N : Nat} {S0 S : SS} (h : FRP b N S0 S) {j : Nat} (hj : 8 ≤ j ∧ j ≤ 13) (x : Int32) : FRP b N S0 (ss S 267 j x) :=
  ⟨h.1, h.2.1, fun k h1 h2 h3 => (if_neg h1).trans (h.2.2.1 k h1 h2 h3), fun i hi => (show (if i = j then x else S.1 267 i) = _ from if_neg (by omega)).trans (h.2.2.2.1 i hi), h.2.2.2.2⟩
theorem FRP.d {b : Nat → Int32} {N : Nat} {S0 S : SS} (h : FRP b N S0 S) (f : Nat → Int32) : FRP b N S0 (su S 269 f) :=
  ⟨h.1, h.2.1, fun k h1 h2 h3 => (if_neg h2).trans (h.2.2.1 k h1 h2 h3), fun i hi => h.2.2.2.1 i hi, h.2.2.2.2⟩
theorem FRP.t {b : Nat → Int32} {N : Nat} {S0 S : SS} (h : FRP b N S0 S) (f : Nat → Int32) : FRP b N S0 (su S 272 f) :=
  ⟨h.1, h.2.1, fun k h1 h2 h3 => (if_neg h3).trans (h.2.2.1 k h1 h2 h3), fun i hi => h.2.2.2.1 i hi, h.2.2.2.2⟩
def TOLD (S : SS) (m : Nat) : Prop := m < 32 ∧ ∀ k, k < 5 → S.1 272 k = if m.testBit k then 1 else 0
/-- all is well, the next byte is q's -/
def PS (b : Nat → Int32) (N : Nat) (S0 S : SS) (q : Nat) (g : Nat → Int32) (m : Nat) : Prop := FRP b N S0 S ∧ (S.1 267 8 = nI q ∧ q ≤ N) ∧ S.1 267 12 = 0 ∧ S.1 267 13 = -1 ∧ S.1 269 = g ∧ TOLD S m ∧ VG 0 g
theorem PS.q {b : Nat → Int32} {N : Nat} {S0 S : SS} {q m : Nat} {g : Nat → Int32} (h : PS b N S0 S q g m) {q' : Nat} (hq : q' ≤ N) : PS b N S0 (ss S 267 8 (nI q')) q' g m :=
  ⟨h.1.w (by omega) _, ⟨rfl, hq⟩, h.2.2.1, h.2.2.2.1, h.2.2.2.2⟩
theorem PS.w {b : Nat → Int32} {N : Nat} {S0 S : SS} {q m : Nat} {g : Nat → Int32} (h : PS b N S0 S q g m) {j : Nat} (hj : j = 9 ∨ j = 10 ∨ j = 11) (x : Int32) : PS b N S0 (ss S 267 j x) q g m := by
  rcases hj with rfl | rfl | rfl <;> exact ⟨h.1.w (by omega) _, h.2⟩
/-- a token that begins at p stands next -/
def GD (b : Nat → Int32) (N : Nat) (S0 S : SS) (s : PST) : Prop := PS b N S0 S (te b N s.1) s.2.1 s.2.2 ∧ S.1 267 9 = nI s.1 ∧ VP b N s.1 ∧ S.1 267 10 = nI (tk b N s.1) ∧ (tk b N s.1 = 2 → S.1 267 11 = nI (vl b N s.1)) ∧ (tk b N s.1 = 3 → S.1 267 11 = b s.1 &&& 255)
/-- an error is told -/
def BD (b : Nat → Int32) (N : Nat) (S0 S : SS) (e : Nat × Nat) : Prop := FRP b N S0 S ∧ S.1 267 12 = nI e.1 ∧ (0 < e.1 ∧ e.1 < 6) ∧ S.1 267 13 = nI e.2 ∧ VG 0 (S.1 269)
def HS (b : Nat → Int32) (N : Nat) (S0 S : SS) (x : PR PST) : Prop := match x with
  | .inl e => BD b N S0 S e
  | .inr s => GD b N S0 S s
theorem mm_good {n : Nat} {S : SS} (hn : 279 ≤ n) : AM yX7_good cX7_good 1 (some .boolean) [] 0 0 0 [.ref 267] n (Hp S) (PI (b2i (S.1 267 12 = 0)) n S) := by
  intro has
  change WA RX7 cX7_good 1 [] _ _ 0 0 0 [some (.ref 267)] [] n _
  refine wa_aload_n dX7_good_0 rfl ?_
  refine g_MO (by assumption) 12 dX7_good_1 fl_X7_162 (by decide) rfl ?_
  refine wa_if_ne 11 dX7_good_4 rfl (fun c4 => ?_) (fun c4 => ?_)
  · refine wa_iconst (x := 0) dX7_good_11 (by decide) ?_
    first
    | exact wa_ireturn dX7_good_12 ⟨Nat.le_refl _, Nat.le_refl _, ⟨_, rfl, rfl⟩, ri (b2i_0 c4).symm, rfl, rfl⟩
    | exact wa_ireturn dX7_good_12 ⟨Nat.le_refl _, Nat.le_refl _, ⟨_, rfl, rfl⟩, ri (b2i_1 c4).symm, rfl, rfl⟩
  · refine wa_iconst (x := 1) dX7_good_7 (by decide) ?_
    refine wa_goto 12 dX7_good_8 rfl ?_
    first
    | exact wa_ireturn dX7_good_12 ⟨Nat.le_refl _, Nat.le_refl _, ⟨_, rfl, rfl⟩, ri (b2i_0 c4).symm, rfl, rfl⟩
    | exact wa_ireturn dX7_good_12 ⟨Nat.le_refl _, Nat.le_refl _, ⟨_, rfl, rfl⟩, ri (b2i_1 c4).symm, rfl, rfl⟩
theorem mm_errs_g {n : Nat} {S : SS} (hn : 279 ≤ n) (h12 : S.1 267 12 = 0) (x : Int32) : AM yX7_errs cX7_errs 2 none [] 1 0 0 [.ref 267, .int x] n (Hp S) (PV n (ss (ss S 267 12 x) 267 13 (S.1 267 9))) := by
  intro has
  change WA RX7 cX7_errs 2 [] _ _ 0 0 0 [some (.ref 267), some (.int x)] [] n _
  refine wa_aload_n dX7_errs_0 rfl ?_
  refine c_VI dX7_errs_1 (mm_good hn) lk_X7_165 rfl (isO_MO _ _ _) rfl (ltS (by assumption)) ?_
  rw [b2i_1 h12]
  refine wa_if_ne 8 dX7_errs_4 rfl (fun c4 => ?_) (fun c4 => absurd c4 (by decide))
  refine wa_aload_n dX7_errs_8 rfl ?_
  refine wa_iload_n dX7_errs_9 rfl ?_
  refine p_MO (by assumption) 12 dX7_errs_10 fl_X7_162 (by decide) rfl rfl rfl rfl (fun _ _ _ => rfl) (Nat.le_of_ble_eq_true rfl) ?_
  refine wa_aload_n dX7_errs_13 rfl ?_
  refine wa_aload_n dX7_errs_14 rfl ?_
  refine g_MO (by assumption) 9 dX7_errs_15 fl_X7_169 (by decide) rfl ?_
  refine p_MO (by assumption) 13 dX7_errs_18 fl_X7_34 (by decide) rfl rfl rfl rfl (fun _ _ _ => rfl) (Nat.le_of_ble_eq_true rfl) ?_
  exact wa_return dX7_errs_21 ⟨Nat.le_refl _, Nat.le_refl _, rfl, rfl, rfl, rfl⟩
theorem mm_errs_b {n : Nat} {S : SS} (hn : 279 ≤ n) (h12 : ¬ S.1 267 12 = 0) (x : Int32) : AM yX7_errs cX7_errs 2 none [] 1 0 0 [.ref 267, .int x] n (Hp S) (PV n S) := by
  intro has
  change WA RX7 cX7_errs 2 [] _ _ 0 0 0 [some (.ref 267), some (.int x)] [] n _
  refine wa_aload_n dX7_errs_0 rfl ?_
  refine c_VI dX7_errs_1 (mm_good hn) lk_X7_165 rfl (isO_MO _ _ _) rfl (ltS (by assumption)) ?_
  rw [b2i_0 h12]
  refine wa_if_ne 8 dX7_errs_4 rfl (fun c4 => absurd rfl c4) (fun c4 => ?_)
  exact wa_return dX7_errs_7 ⟨Nat.le_refl _, Nat.le_refl _, rfl, rfl, rfl, rfl⟩
theorem mm_byteAt {n : Nat} {S : SS} {b : Nat → Int32} {N : Nat} {S0 : SS} {q : Nat} (hn : 279 ≤ n) (hF : FRP b N S0 S) (hq : q ≤ N) : AM yX7_byteAt cX7_byteAt 2 (some .int) [] 0 0 0 [.ref 267, .int (nI q)] n (Hp S) (PI (bat b N q) n S) := by
  intro has
  change WA RX7 cX7_byteAt 2 [] _ _ 0 0 0 [some (.ref 267), some (.int (nI q))] [] n _
  have h5 := hF.le
  refine wa_iload_n dX7_byteAt_0 rfl ?_
  refine wa_aload_n dX7_byteAt_1 rfl ?_
  refine g_MO (by assumption) 7 dX7_byteAt_2 fl_X7_172 (by decide) rfl ?_
  rw [hF.n7]
  refine wa_icmp_ge 21 dX7_byteAt_5 rfl (fun c5 => ?_) (fun c5 => ?_)
  · refine wa_iconst (x := (-1)) dX7_byteAt_21 (by decide) ?_
    first
    | exact wa_ireturn dX7_byteAt_22 ⟨Nat.le_refl _, Nat.le_refl _, ⟨_, rfl, rfl⟩, ri (if_pos hlt).symm, rfl, rfl⟩
    | exact wa_ireturn dX7_byteAt_22 ⟨Nat.le_refl _, Nat.le_refl _, ⟨_, rfl, rfl⟩, ri (show _ = bat b N q from (if_neg (fun z => Int32.not_lt.mpr c5 (nI_lt z (by omega)))).symm), rfl, rfl⟩
  · refine wa_aload_n dX7_byteAt_8 rfl ?_
    refine g_MO (by assumption) 5 dX7_byteAt_9 fl_X7_30 (by decide) rfl ?_
    refine wa_iload_n dX7_byteAt_12 rfl ?_
    have hlt : q < N := Nat.lt_of_not_le (fun z => c5 (nI_le z (by omega)))
    refine s_bald (j := q) isA_input dX7_byteAt_13 (ltS (by assumption)) (ix_nI (by omega)) (by omega) ?_
    rw [hF.in]
    refine wa_sipush (x := 255) dX7_byteAt_14 (by decide) ?_
    refine wa_iand dX7_byteAt_17 ?_
    refine wa_goto 22 dX7_byteAt_18 rfl ?_
    first
    | exact wa_ireturn dX7_byteAt_22 ⟨Nat.le_refl _, Nat.le_refl _, ⟨_, rfl, rfl⟩, ri (if_pos hlt).symm, rfl, rfl⟩
    | exact wa_ireturn dX7_byteAt_22 ⟨Nat.le_refl _, Nat.le_refl _, ⟨_, rfl, rfl⟩, ri (show _ = bat b N q from (if_neg (fun z => Int32.not_lt.mpr c5 (nI_lt z (by omega)))).symm), rfl, rfl⟩
theorem lp_skip {Q : ab_Q} {n : Nat} {b : Nat → Int32} {N : Nat} {S0 : SS} {m : Nat} {g : Nat → Int32} {l1 : Option Value} (hn : 279 ≤ n) : ∀ (f q : Nat) (S : SS), N - q = f → PS b N S0 S q g m →
    (∀ S', PS b N S0 S' (run b N 0 q) g m → WA RX7 cX7_scan 2 [] (ab_rm 1 0 0) Q 0 0 39 [some (.ref 267), l1] [] n (Hp S')) → WA RX7 cX7_scan 2 [] (ab_rm 1 0 0) Q 0 0 0 [some (.ref 267), l1] [] n (Hp S) := by
  intro f
  induction f with
  | zero =>
    intro q S hf hP hQ
    refine wa_aload_n dX7_scan_0 rfl ?_
    refine wa_aload_n dX7_scan_1 rfl ?_
    refine g_MO (by assumption) 8 dX7_scan_2 fl_X7_175 (by decide) rfl ?_
    rw [hP.2.1.1]
    refine c_VI dX7_scan_5 (mm_byteAt hn hP.1 hP.2.1.2) lk_X7_178 rfl (isO_MO _ _ _) rfl (ltS (by assumption)) ?_
    refine wa_bipush (x := 32) dX7_scan_8 (by decide) ?_
    refine wa_icmp_eq 26 dX7_scan_10 rfl (fun c10 => ?_) (fun c10 => ?_)
    · refine wa_aload_n dX7_scan_26 rfl ?_
      refine wa_dup dX7_scan_27 rfl ?_
      refine g_MO (by assumption) 8 dX7_scan_28 fl_X7_175 (by decide) rfl ?_
      rw [hP.2.1.1]
      refine wa_iconst (x := 1) dX7_scan_31 (by decide) ?_
      refine wa_iadd dX7_scan_32 ?_
      rw [nI_1 q]
      refine p_MO (by assumption) 8 dX7_scan_33 fl_X7_175 (by decide) rfl rfl rfl rfl (fun _ _ _ => rfl) (Nat.le_of_ble_eq_true rfl) ?_
      refine wa_goto 0 dX7_scan_36 rfl ?_
      have hy : q < N ∧ kd (b q) = 0 := (bat_0 hP.1.by).mp (by first | exact Or.inl c10 | exact Or.inr c23)
      rw [run_s hy.1 hy.2] at hQ
      omega
    · refine wa_aload_n dX7_scan_13 rfl ?_
      refine wa_aload_n dX7_scan_14 rfl ?_
      refine g_MO (by assumption) 8 dX7_scan_15 fl_X7_175 (by decide) rfl ?_
      rw [hP.2.1.1]
      refine c_VI dX7_scan_18 (mm_byteAt hn hP.1 hP.2.1.2) lk_X7_178 rfl (isO_MO _ _ _) rfl (ltS (by assumption)) ?_
      refine wa_bipush (x := 10) dX7_scan_21 (by decide) ?_
      refine wa_icmp_ne 39 dX7_scan_23 rfl (fun c23 => ?_) (fun c23 => ?_)
      · have hnn : ¬ (q < N ∧ kd (b q) = 0) := fun z => by
          rcases (bat_0 hP.1.by).mpr z with z | z
          · exact c10 z
          · exact c23 z
        rw [run_e hnn] at hQ
        exact hQ S hP
      · refine wa_aload_n dX7_scan_26 rfl ?_
        refine wa_dup dX7_scan_27 rfl ?_
        refine g_MO (by assumption) 8 dX7_scan_28 fl_X7_175 (by decide) rfl ?_
        rw [hP.2.1.1]
        refine wa_iconst (x := 1) dX7_scan_31 (by decide) ?_
        refine wa_iadd dX7_scan_32 ?_
        rw [nI_1 q]
        refine p_MO (by assumption) 8 dX7_scan_33 fl_X7_175 (by decide) rfl rfl rfl rfl (fun _ _ _ => rfl) (Nat.le_of_ble_eq_true rfl) ?_
        refine wa_goto 0 dX7_scan_36 rfl ?_
        have hy : q < N ∧ kd (b q) = 0 := (bat_0 hP.1.by).mp (by first | exact Or.inl c10 | exact Or.inr c23)
        rw [run_s hy.1 hy.2] at hQ
        omega
  | succ f ih =>
    intro q S hf hP hQ
    refine wa_aload_n dX7_scan_0 rfl ?_
    refine wa_aload_n dX7_scan_1 rfl ?_
    refine g_MO (by assumption) 8 dX7_scan_2 fl_X7_175 (by decide) rfl ?_
    rw [hP.2.1.1]
    refine c_VI dX7_scan_5 (mm_byteAt hn hP.1 hP.2.1.2) lk_X7_178 rfl (isO_MO _ _ _) rfl (ltS (by assumption)) ?_
    refine wa_bipush (x := 32) dX7_scan_8 (by decide) ?_
    refine wa_icmp_eq 26 dX7_scan_10 rfl (fun c10 => ?_) (fun c10 => ?_)
    · refine wa_aload_n dX7_scan_26 rfl ?_
      refine wa_dup dX7_scan_27 rfl ?_
      refine g_MO (by assumption) 8 dX7_scan_28 fl_X7_175 (by decide) rfl ?_
      rw [hP.2.1.1]
      refine wa_iconst (x := 1) dX7_scan_31 (by decide) ?_
      refine wa_iadd dX7_scan_32 ?_
      rw [nI_1 q]
      refine p_MO (by assumption) 8 dX7_scan_33 fl_X7_175 (by decide) rfl rfl rfl rfl (fun _ _ _ => rfl) (Nat.le_of_ble_eq_true rfl) ?_
      refine wa_goto 0 dX7_scan_36 rfl ?_
      have hy : q < N ∧ kd (b q) = 0 := (bat_0 hP.1.by).mp (by first | exact Or.inl c10 | exact Or.inr c23)
      rw [run_s hy.1 hy.2] at hQ
      exact ih (q + 1) (ss S 267 8 (nI (q + 1))) (by omega) (hP.q (by omega)) hQ
    · refine wa_aload_n dX7_scan_13 rfl ?_
      refine wa_aload_n dX7_scan_14 rfl ?_
      refine g_MO (by assumption) 8 dX7_scan_15 fl_X7_175 (by decide) rfl ?_
      rw [hP.2.1.1]
      refine c_VI dX7_scan_18 (mm_byteAt hn hP.1 hP.2.1.2) lk_X7_178 rfl (isO_MO _ _ _) rfl (ltS (by assumption)) ?_
      refine wa_bipush (x := 10) dX7_scan_21 (by decide) ?_
      refine wa_icmp_ne 39 dX7_scan_23 rfl (fun c23 => ?_) (fun c23 => ?_)
      · have hnn : ¬ (q < N ∧ kd (b q) = 0) := fun z => by
          rcases (bat_0 hP.1.by).mpr z with z | z
          · exact c10 z
          · exact c23 z
        rw [run_e hnn] at hQ
        exact hQ S hP
      · refine wa_aload_n dX7_scan_26 rfl ?_
        refine wa_dup dX7_scan_27 rfl ?_
        refine g_MO (by assumption) 8 dX7_scan_28 fl_X7_175 (by decide) rfl ?_
        rw [hP.2.1.1]
        refine wa_iconst (x := 1) dX7_scan_31 (by decide) ?_
        refine wa_iadd dX7_scan_32 ?_
        rw [nI_1 q]
        refine p_MO (by assumption) 8 dX7_scan_33 fl_X7_175 (by decide) rfl rfl rfl rfl (fun _ _ _ => rfl) (Nat.le_of_ble_eq_true rfl) ?_
        refine wa_goto 0 dX7_scan_36 rfl ?_
        have hy : q < N ∧ kd (b q) = 0 := (bat_0 hP.1.by).mp (by first | exact Or.inl c10 | exact Or.inr c23)
        rw [run_s hy.1 hy.2] at hQ
        exact ih (q + 1) (ss S 267 8 (nI (q + 1))) (by omega) (hP.q (by omega)) hQ
theorem lp_word {Q : ab_Q} {n : Nat} {b : Nat → Int32} {N : Nat} {S0 : SS} {m : Nat} {g : Nat → Int32} {l1 : Option Value} {x9 : Int32} (hn : 279 ≤ n) : ∀ (f q : Nat) (S : SS), N - q = f → PS b N S0 S q g m → S.1 267 9 = x9 →
    (∀ S', PS b N S0 S' (run b N 1 q) g m → S'.1 267 9 = x9 → WA RX7 cX7_scan 2 [] (ab_rm 1 0 0) Q 0 0 117 [some (.ref 267), l1] [] n (Hp S')) → WA RX7 cX7_scan 2 [] (ab_rm 1 0 0) Q 0 0 83 [some (.ref 267), l1] [] n (Hp S) := by
  intro f
  induction f with
  | zero =>
    intro q S hf hP h9 hQ
    refine wa_aload_n dX7_scan_83 rfl ?_
    refine wa_aload_n dX7_scan_84 rfl ?_
    refine g_MO (by assumption) 8 dX7_scan_85 fl_X7_175 (by decide) rfl ?_
    rw [hP.2.1.1]
    refine c_VI dX7_scan_88 (mm_byteAt hn hP.1 hP.2.1.2) lk_X7_178 rfl (isO_MO _ _ _) rfl (ltS (by assumption)) ?_
    refine wa_i2l dX7_scan_91 ?_
    refine wa_ldc2 dX7_scan_92 wv_X7_184 ?_
    refine wa_ldc2 dX7_scan_95 wv_X7_186 ?_
    refine c_SI dX7_scan_98 (mm_inI (a := bat b N q) (b := 97) (c := 122) (by decide) (by decide)) lk_X7_60 rfl ?_
    refine wa_if_eq 117 dX7_scan_101 rfl (fun c101 => ?_) (fun c101 => ?_)
    · have hnn : ¬ (q < N ∧ kd (b q) = 1) := fun z => b2i_f c101 ((bat_1 hP.1.by).mpr z)
      rw [run_e hnn] at hQ
      exact hQ S hP h9
    · refine wa_aload_n dX7_scan_104 rfl ?_
      refine wa_dup dX7_scan_105 rfl ?_
      refine g_MO (by assumption) 8 dX7_scan_106 fl_X7_175 (by decide) rfl ?_
      rw [hP.2.1.1]
      refine wa_iconst (x := 1) dX7_scan_109 (by decide) ?_
      refine wa_iadd dX7_scan_110 ?_
      rw [nI_1 q]
      refine p_MO (by assumption) 8 dX7_scan_111 fl_X7_175 (by decide) rfl rfl rfl rfl (fun _ _ _ => rfl) (Nat.le_of_ble_eq_true rfl) ?_
      refine wa_goto 83 dX7_scan_114 rfl ?_
      have hy : q < N ∧ kd (b q) = 1 := (bat_1 hP.1.by).mp (b2i_t c101)
      rw [run_s hy.1 hy.2] at hQ
      omega
  | succ f ih =>
    intro q S hf hP h9 hQ
    refine wa_aload_n dX7_scan_83 rfl ?_
    refine wa_aload_n dX7_scan_84 rfl ?_
    refine g_MO (by assumption) 8 dX7_scan_85 fl_X7_175 (by decide) rfl ?_
    rw [hP.2.1.1]
    refine c_VI dX7_scan_88 (mm_byteAt hn hP.1 hP.2.1.2) lk_X7_178 rfl (isO_MO _ _ _) rfl (ltS (by assumption)) ?_
    refine wa_i2l dX7_scan_91 ?_
    refine wa_ldc2 dX7_scan_92 wv_X7_184 ?_
    refine wa_ldc2 dX7_scan_95 wv_X7_186 ?_
    refine c_SI dX7_scan_98 (mm_inI (a := bat b N q) (b := 97) (c := 122) (by decide) (by decide)) lk_X7_60 rfl ?_
    refine wa_if_eq 117 dX7_scan_101 rfl (fun c101 => ?_) (fun c101 => ?_)
    · have hnn : ¬ (q < N ∧ kd (b q) = 1) := fun z => b2i_f c101 ((bat_1 hP.1.by).mpr z)
      rw [run_e hnn] at hQ
      exact hQ S hP h9
    · refine wa_aload_n dX7_scan_104 rfl ?_
      refine wa_dup dX7_scan_105 rfl ?_
      refine g_MO (by assumption) 8 dX7_scan_106 fl_X7_175 (by decide) rfl ?_
      rw [hP.2.1.1]
      refine wa_iconst (x := 1) dX7_scan_109 (by decide) ?_
      refine wa_iadd dX7_scan_110 ?_
      rw [nI_1 q]
      refine p_MO (by assumption) 8 dX7_scan_111 fl_X7_175 (by decide) rfl rfl rfl rfl (fun _ _ _ => rfl) (Nat.le_of_ble_eq_true rfl) ?_
      refine wa_goto 83 dX7_scan_114 rfl ?_
      have hy : q < N ∧ kd (b q) = 1 := (bat_1 hP.1.by).mp (b2i_t c101)
      rw [run_s hy.1 hy.2] at hQ
      exact ih (q + 1) (ss S 267 8 (nI (q + 1))) (by omega) (hP.q (by omega)) h9 hQ
theorem num_step {b : Nat → Int32} {N p k : Nat} (hB : BY b N) (hk : p + k < N) (hd : kd (b (p + k)) = 2) : i_min 99999 (10 * nI (nv b 99999 p k) + bat b N (p + k) - 48) = nI (nv b 99999 p (k + 1)) := by
  have h1 := nv_le b 99999 p k
  have e1 : nv b 99999 p (k + 1) = min 99999 (10 * nv b 99999 p k + ((b (p + k)).toInt - 48).toNat) := rfl
  obtain ⟨h2, h3⟩ := kd_2.mp hd
  have e2 := bat_i (q := p + k) hB
  rw [if_pos hk, if_neg (by omega)] at e2
  have e3 : bat b N (p + k) = nI (b (p + k)).toInt.toNat := by
    apply Int32.toInt_inj.mp
    rw [e2, nI_toInt (by omega)]; omega
  rw [e3, show (10 : Int32) * nI (nv b 99999 p k) = nI (10 * nv b 99999 p k) from nI_mul 10 _, nI_add, show (48 : Int32) = nI 48 from rfl, nI_sub (by omega), e1]
  unfold i_min
  rw [show (99999 : Int32) = nI 99999 from rfl]
  by_cases hc : 10 * nv b 99999 p k + (b (p + k)).toInt.toNat - 48 < 99999
  · rw [if_pos (nI_lt hc (by decide))]
    congr 1; omega
  · rw [if_neg (Int32.not_lt.mpr (nI_le (by omega) (by omega)))]
    congr 1; omega
theorem lp_num {Q : ab_Q} {n : Nat} {b : Nat → Int32} {N : Nat} {S0 : SS} {m p : Nat} {g : Nat → Int32} {l1 : Option Value} {x9 : Int32} (hn : 279 ≤ n) : ∀ (f q : Nat) (S : SS), N - q = f → p ≤ q → PS b N S0 S q g m → S.1 267 9 = x9 → S.1 267 11 = nI (nv b 99999 p (q - p)) →
    (∀ S', PS b N S0 S' (run b N 2 q) g m → S'.1 267 9 = x9 → S'.1 267 11 = nI (nv b 99999 p (run b N 2 q - p)) → WA RX7 cX7_scan 2 [] (ab_rm 1 0 0) Q 0 0 206 [some (.ref 267), l1] [] n (Hp S')) → WA RX7 cX7_scan 2 [] (ab_rm 1 0 0) Q 0 0 144 [some (.ref 267), l1] [] n (Hp S) := by
  intro f
  induction f with
  | zero =>
    intro q S hf hpq hP h9 h11 hQ
    refine wa_aload_n dX7_scan_144 rfl ?_
    refine wa_aload_n dX7_scan_145 rfl ?_
    refine g_MO (by assumption) 8 dX7_scan_146 fl_X7_175 (by decide) rfl ?_
    rw [hP.2.1.1]
    refine c_VI dX7_scan_149 (mm_byteAt hn hP.1 hP.2.1.2) lk_X7_178 rfl (isO_MO _ _ _) rfl (ltS (by assumption)) ?_
    refine wa_i2l dX7_scan_152 ?_
    refine wa_ldc2 dX7_scan_153 wv_X7_188 ?_
    refine wa_ldc2 dX7_scan_156 wv_X7_190 ?_
    refine c_SI dX7_scan_159 (mm_inI (a := bat b N q) (b := 48) (c := 57) (by decide) (by decide)) lk_X7_60 rfl ?_
    refine wa_if_eq 206 dX7_scan_162 rfl (fun c162 => ?_) (fun c162 => ?_)
    · have hnn : ¬ (q < N ∧ kd (b q) = 2) := fun z => b2i_f c162 ((bat_2 hP.1.by).mpr z)
      rw [run_e hnn] at hQ
      exact hQ S hP h9 h11
    · have hy : q < N ∧ kd (b q) = 2 := (bat_2 hP.1.by).mp (b2i_t c162)
      have hst : i_min 99999 (10 * nI (nv b 99999 p (q - p)) + bat b N q - 48) = nI (nv b 99999 p (q - p + 1)) := by
        have := num_step (b := b) (N := N) (p := p) (k := q - p) hP.1.by (by omega) (by rw [show p + (q - p) = q by omega]; exact hy.2)
        rw [show p + (q - p) = q by omega] at this
        exact this
      refine wa_aload_n dX7_scan_165 rfl ?_
      refine wa_ldc dX7_scan_166 wv_X7_195 ?_
      refine wa_bipush (x := 10) dX7_scan_168 (by decide) ?_
      refine wa_aload_n dX7_scan_170 rfl ?_
      refine g_MO (by assumption) 11 dX7_scan_171 fl_X7_192 (by decide) rfl ?_
      rw [h11]
      refine wa_imul dX7_scan_174 ?_
      refine wa_aload_n dX7_scan_175 rfl ?_
      refine wa_aload_n dX7_scan_176 rfl ?_
      refine g_MO (by assumption) 8 dX7_scan_177 fl_X7_175 (by decide) rfl ?_
      rw [hP.2.1.1]
      refine c_VI dX7_scan_180 (mm_byteAt hn hP.1 hP.2.1.2) lk_X7_178 rfl (isO_MO _ _ _) rfl (ltS (by assumption)) ?_
      refine wa_iadd dX7_scan_183 ?_
      refine wa_bipush (x := 48) dX7_scan_184 (by decide) ?_
      refine wa_isub dX7_scan_186 ?_
      refine c_SI dX7_scan_187 (am_min _ _) lk_X7_100 rfl ?_
      rw [hst]
      refine p_MO (by assumption) 11 dX7_scan_190 fl_X7_192 (by decide) rfl rfl rfl rfl (fun _ _ _ => rfl) (Nat.le_of_ble_eq_true rfl) ?_
      refine wa_aload_n dX7_scan_193 rfl ?_
      refine wa_dup dX7_scan_194 rfl ?_
      refine g_MO (by assumption) 8 dX7_scan_195 fl_X7_175 (by decide) rfl ?_
      rw [show (ss S 267 11 (nI (nv b 99999 p (q - p + 1)))).1 267 8 = nI q from hP.2.1.1]
      refine wa_iconst (x := 1) dX7_scan_198 (by decide) ?_
      refine wa_iadd dX7_scan_199 ?_
      rw [nI_1 q]
      refine p_MO (by assumption) 8 dX7_scan_200 fl_X7_175 (by decide) rfl rfl rfl rfl (fun _ _ _ => rfl) (Nat.le_of_ble_eq_true rfl) ?_
      refine wa_goto 144 dX7_scan_203 rfl ?_
      rw [run_s hy.1 hy.2] at hQ
      omega
  | succ f ih =>
    intro q S hf hpq hP h9 h11 hQ
    refine wa_aload_n dX7_scan_144 rfl ?_
    refine wa_aload_n dX7_scan_145 rfl ?_
    refine g_MO (by assumption) 8 dX7_scan_146 fl_X7_175 (by decide) rfl ?_
    rw [hP.2.1.1]
    refine c_VI dX7_scan_149 (mm_byteAt hn hP.1 hP.2.1.2) lk_X7_178 rfl (isO_MO _ _ _) rfl (ltS (by assumption)) ?_
    refine wa_i2l dX7_scan_152 ?_
    refine wa_ldc2 dX7_scan_153 wv_X7_188 ?_
    refine wa_ldc2 dX7_scan_156 wv_X7_190 ?_
    refine c_SI dX7_scan_159 (mm_inI (a := bat b N q) (b := 48) (c := 57) (by decide) (by decide)) lk_X7_60 rfl ?_
    refine wa_if_eq 206 dX7_scan_162 rfl (fun c162 => ?_) (fun c162 => ?_)
    · have hnn : ¬ (q < N ∧ kd (b q) = 2) := fun z => b2i_f c162 ((bat_2 hP.1.by).mpr z)
      rw [run_e hnn] at hQ
      exact hQ S hP h9 h11
    · have hy : q < N ∧ kd (b q) = 2 := (bat_2 hP.1.by).mp (b2i_t c162)
      have hst : i_min 99999 (10 * nI (nv b 99999 p (q - p)) + bat b N q - 48) = nI (nv b 99999 p (q - p + 1)) := by
        have := num_step (b := b) (N := N) (p := p) (k := q - p) hP.1.by (by omega) (by rw [show p + (q - p) = q by omega]; exact hy.2)
        rw [show p + (q - p) = q by omega] at this
        exact this
      refine wa_aload_n dX7_scan_165 rfl ?_
      refine wa_ldc dX7_scan_166 wv_X7_195 ?_
      refine wa_bipush (x := 10) dX7_scan_168 (by decide) ?_
      refine wa_aload_n dX7_scan_170 rfl ?_
      refine g_MO (by assumption) 11 dX7_scan_171 fl_X7_192 (by decide) rfl ?_
      rw [h11]
      refine wa_imul dX7_scan_174 ?_
      refine wa_aload_n dX7_scan_175 rfl ?_
      refine wa_aload_n dX7_scan_176 rfl ?_
      refine g_MO (by assumption) 8 dX7_scan_177 fl_X7_175 (by decide) rfl ?_
      rw [hP.2.1.1]
      refine c_VI dX7_scan_180 (mm_byteAt hn hP.1 hP.2.1.2) lk_X7_178 rfl (isO_MO _ _ _) rfl (ltS (by assumption)) ?_
      refine wa_iadd dX7_scan_183 ?_
      refine wa_bipush (x := 48) dX7_scan_184 (by decide) ?_
      refine wa_isub dX7_scan_186 ?_
      refine c_SI dX7_scan_187 (am_min _ _) lk_X7_100 rfl ?_
      rw [hst]
      refine p_MO (by assumption) 11 dX7_scan_190 fl_X7_192 (by decide) rfl rfl rfl rfl (fun _ _ _ => rfl) (Nat.le_of_ble_eq_true rfl) ?_
      refine wa_aload_n dX7_scan_193 rfl ?_
      refine wa_dup dX7_scan_194 rfl ?_
      refine g_MO (by assumption) 8 dX7_scan_195 fl_X7_175 (by decide) rfl ?_
      rw [show (ss S 267 11 (nI (nv b 99999 p (q - p + 1)))).1 267 8 = nI q from hP.2.1.1]
      refine wa_iconst (x := 1) dX7_scan_198 (by decide) ?_
      refine wa_iadd dX7_scan_199 ?_
      rw [nI_1 q]
      refine p_MO (by assumption) 8 dX7_scan_200 fl_X7_175 (by decide) rfl rfl rfl rfl (fun _ _ _ => rfl) (Nat.le_of_ble_eq_true rfl) ?_
      refine wa_goto 144 dX7_scan_203 rfl ?_
      rw [run_s hy.1 hy.2] at hQ
      exact ih (q + 1) (ss (ss S 267 11 (nI (nv b 99999 p (q - p + 1)))) 267 8 (nI (q + 1))) (by omega) (by omega) ((hP.w (Or.inr (Or.inr rfl)) _).q (by omega)) h9 (by rw [show q + 1 - p = q - p + 1 by omega]; rfl) hQ
theorem scan_tail {Q : ab_Q} {n : Nat} {b : Nat → Int32} {N : Nat} {S0 : SS} {S : SS} {m p : Nat} {g : Nat → Int32} {l1 : Option Value} (hn : 279 ≤ n) (hP : PS b N S0 S p g m) (hVP : VP b N p)
    (hQ : ∀ S', GD b N S0 S' (p, g, m) → Q (.inl none) 0 0 n (Hp S')) : WA RX7 cX7_scan 2 [] (ab_rm 1 0 0) Q 0 0 39 [some (.ref 267), l1] [] n (Hp S) := by
  have hP9 : PS b N S0 (ss S 267 9 (nI p)) p g m := hP.w (Or.inl rfl) _
  refine wa_aload_n dX7_scan_39 rfl ?_
  refine wa_aload_n dX7_scan_40 rfl ?_
  refine g_MO (by assumption) 8 dX7_scan_41 fl_X7_175 (by decide) rfl ?_
  rw [hP.2.1.1]
  refine p_MO (by assumption) 9 dX7_scan_44 fl_X7_169 (by decide) rfl rfl rfl rfl (fun _ _ _ => rfl) (Nat.le_of_ble_eq_true rfl) ?_
  refine wa_aload_n dX7_scan_47 rfl ?_
  refine wa_aload_n dX7_scan_48 rfl ?_
  refine g_MO (by assumption) 8 dX7_scan_49 fl_X7_175 (by decide) rfl ?_
  rw [show (ss S 267 9 (nI p)).1 267 8 = nI p from hP.2.1.1]
  refine c_VI dX7_scan_52 (mm_byteAt (S := ss S 267 9 (nI p)) (q := p) hn hP9.1 hP.2.1.2) lk_X7_178 rfl (isO_MO _ _ _) rfl (ltS (by assumption)) ?_
  refine wa_istore_n dX7_scan_55 rfl ?_
  refine wa_iload_n dX7_scan_56 rfl ?_
  refine wa_iconst (x := (-1)) dX7_scan_57 (by decide) ?_
  refine wa_icmp_ne 69 dX7_scan_58 rfl (fun c58 => ?_) (fun c58 => ?_)
  · refine wa_iload_n dX7_scan_69 rfl ?_
    refine wa_i2l dX7_scan_70 ?_
    refine wa_ldc2 dX7_scan_71 wv_X7_184 ?_
    refine wa_ldc2 dX7_scan_74 wv_X7_186 ?_
    refine c_SI dX7_scan_77 (mm_inI (a := bat b N p) (b := 97) (c := 122) (by decide) (by decide)) lk_X7_60 rfl ?_
    refine wa_if_eq 125 dX7_scan_80 rfl (fun c80 => ?_) (fun c80 => ?_)
    · refine wa_iload_n dX7_scan_125 rfl ?_
      refine wa_i2l dX7_scan_126 ?_
      refine wa_ldc2 dX7_scan_127 wv_X7_188 ?_
      refine wa_ldc2 dX7_scan_130 wv_X7_190 ?_
      refine c_SI dX7_scan_133 (mm_inI (a := bat b N p) (b := 48) (c := 57) (by decide) (by decide)) lk_X7_60 rfl ?_
      refine wa_if_eq 214 dX7_scan_136 rfl (fun c136 => ?_) (fun c136 => ?_)
      · refine wa_aload_n dX7_scan_214 rfl ?_
        refine wa_iconst (x := 3) dX7_scan_215 (by decide) ?_
        refine p_MO (by assumption) 10 dX7_scan_216 fl_X7_181 (by decide) rfl rfl rfl rfl (fun _ _ _ => rfl) (Nat.le_of_ble_eq_true rfl) ?_
        refine wa_aload_n dX7_scan_219 rfl ?_
        refine wa_iload_n dX7_scan_220 rfl ?_
        refine p_MO (by assumption) 11 dX7_scan_221 fl_X7_192 (by decide) rfl rfl rfl rfl (fun _ _ _ => rfl) (Nat.le_of_ble_eq_true rfl) ?_
        refine wa_aload_n dX7_scan_224 rfl ?_
        refine wa_dup dX7_scan_225 rfl ?_
        refine g_MO (by assumption) 8 dX7_scan_226 fl_X7_175 (by decide) rfl ?_
        rw [show (ss (ss (ss S 267 9 (nI p)) 267 10 3) 267 11 (bat b N p)).1 267 8 = nI p from hP.2.1.1]
        refine wa_iconst (x := 1) dX7_scan_229 (by decide) ?_
        refine wa_iadd dX7_scan_230 ?_
        rw [nI_1 p]
        refine p_MO (by assumption) 8 dX7_scan_231 fl_X7_175 (by decide) rfl rfl rfl rfl (fun _ _ _ => rfl) (Nat.le_of_ble_eq_true rfl) ?_
        first
        | (have hq : ¬ p < N := (bat_n hP.1.by).mp c58
           have ht : te b N p = p := if_neg hq
           have hk : tk b N p = 0 := if_neg hq
           exact wa_return dX7_scan_234 (hQ _ ⟨by rw [ht]; exact hP9.w (Or.inr (Or.inl rfl)) _, rfl, hVP, by rw [hk]; rfl, fun z => absurd (hk.symm.trans z) (by decide), fun z => absurd (hk.symm.trans z) (by decide)⟩))
        | (have hq : p < N := Classical.byContradiction (fun z => c58 ((bat_n hP.1.by).mpr z))
           have h1 : ¬ kd (b p) = 1 := fun z => b2i_f c80 ((bat_1 hP.1.by).mpr ⟨hq, z⟩)
           have h2 : ¬ kd (b p) = 2 := fun z => b2i_f c136 ((bat_2 hP.1.by).mpr ⟨hq, z⟩)
           have h0 := hVP.2 hq
           have h3 : kd (b p) = 3 := by have := kd_le (b p); omega
           have ht : te b N p = p + 1 := by unfold te; rw [if_pos hq, if_pos h3]
           have hk : tk b N p = 3 := (if_pos hq).trans h3
           exact wa_return dX7_scan_234 (hQ _ ⟨by rw [ht]; exact ((hP9.w (Or.inr (Or.inl rfl)) _).w (Or.inr (Or.inr rfl)) _).q (by omega), rfl, hVP, by rw [hk]; rfl, fun z => absurd (hk.symm.trans z) (by decide), fun _ => if_pos hq⟩))
      · refine wa_aload_n dX7_scan_139 rfl ?_
        refine wa_iconst (x := 0) dX7_scan_140 (by decide) ?_
        refine p_MO (by assumption) 11 dX7_scan_141 fl_X7_192 (by decide) rfl rfl rfl rfl (fun _ _ _ => rfl) (Nat.le_of_ble_eq_true rfl) ?_
        have hy : p < N ∧ kd (b p) = 2 := (bat_2 hP.1.by).mp (b2i_t c136)
        have ht : te b N p = run b N 2 p := by unfold te; rw [if_pos hy.1, if_neg (by rw [hy.2]; decide), hy.2]
        have hk : tk b N p = 2 := (if_pos hy.1).trans hy.2
        refine lp_num (p := p) hn (N - p) p (ss (ss S 267 9 (nI p)) 267 11 0) rfl (Nat.le_refl _) (hP9.w (Or.inr (Or.inr rfl)) _) rfl (by rw [Nat.sub_self]; rfl) (fun S' hP' h9' h11' => ?_)
        refine wa_aload_n dX7_scan_206 rfl ?_
        refine wa_iconst (x := 2) dX7_scan_207 (by decide) ?_
        refine p_MO (by assumption) 10 dX7_scan_208 fl_X7_181 (by decide) rfl rfl rfl rfl (fun _ _ _ => rfl) (Nat.le_of_ble_eq_true rfl) ?_
        refine wa_goto 234 dX7_scan_211 rfl ?_
        exact wa_return dX7_scan_234 (hQ _ ⟨by rw [ht]; exact hP'.w (Or.inr (Or.inl rfl)) _, h9', hVP, by rw [hk]; rfl, fun _ => by unfold vl; rw [ht]; exact h11', fun z => absurd (hk.symm.trans z) (by decide)⟩)
    · have hy : p < N ∧ kd (b p) = 1 := (bat_1 hP.1.by).mp (b2i_t c80)
      have ht : te b N p = run b N 1 p := by unfold te; rw [if_pos hy.1, if_neg (by rw [hy.2]; decide), hy.2]
      have hk : tk b N p = 1 := (if_pos hy.1).trans hy.2
      refine lp_word hn (N - p) p (ss S 267 9 (nI p)) rfl hP9 rfl (fun S' hP' h9' => ?_)
      refine wa_aload_n dX7_scan_117 rfl ?_
      refine wa_iconst (x := 1) dX7_scan_118 (by decide) ?_
      refine p_MO (by assumption) 10 dX7_scan_119 fl_X7_181 (by decide) rfl rfl rfl rfl (fun _ _ _ => rfl) (Nat.le_of_ble_eq_true rfl) ?_
      refine wa_goto 234 dX7_scan_122 rfl ?_
      exact wa_return dX7_scan_234 (hQ _ ⟨by rw [ht]; exact hP'.w (Or.inr (Or.inl rfl)) _, h9', hVP, by rw [hk]; rfl, fun z => absurd (hk.symm.trans z) (by decide), fun z => absurd (hk.symm.trans z) (by decide)⟩)
  · refine wa_aload_n dX7_scan_61 rfl ?_
    refine wa_iconst (x := 0) dX7_scan_62 (by decide) ?_
    refine p_MO (by assumption) 10 dX7_scan_63 fl_X7_181 (by decide) rfl rfl rfl rfl (fun _ _ _ => rfl) (Nat.le_of_ble_eq_true rfl) ?_
    refine wa_goto 234 dX7_scan_66 rfl ?_
    first
    | (have hq : ¬ p < N := (bat_n hP.1.by).mp c58
       have ht : te b N p = p := if_neg hq
       have hk : tk b N p = 0 := if_neg hq
       exact wa_return dX7_scan_234 (hQ _ ⟨by rw [ht]; exact hP9.w (Or.inr (Or.inl rfl)) _, rfl, hVP, by rw [hk]; rfl, fun z => absurd (hk.symm.trans z) (by decide), fun z => absurd (hk.symm.trans z) (by decide)⟩))
    | (have hq : p < N := Classical.byContradiction (fun z => c58 ((bat_n hP.1.by).mpr z))
       have h1 : ¬ kd (b p) = 1 := fun z => b2i_f c80 ((bat_1 hP.1.by).mpr ⟨hq, z⟩)
       have h2 : ¬ kd (b p) = 2 := fun z => b2i_f c136 ((bat_2 hP.1.by).mpr ⟨hq, z⟩)
       have h0 := hVP.2 hq
       have h3 : kd (b p) = 3 := by have := kd_le (b p); omega
       have ht : te b N p = p + 1 := by unfold te; rw [if_pos hq, if_pos h3]
       have hk : tk b N p = 3 := (if_pos hq).trans h3
       exact wa_return dX7_scan_234 (hQ _ ⟨by rw [ht]; exact ((hP9.w (Or.inr (Or.inl rfl)) _).w (Or.inr (Or.inr rfl)) _).q (by omega), rfl, hVP, by rw [hk]; rfl, fun z => absurd (hk.symm.trans z) (by decide), fun _ => if_pos hq⟩))
theorem mm_scan {n : Nat} {S : SS} {b : Nat → Int32} {N : Nat} {S0 : SS} {q m : Nat} {g : Nat → Int32} (hn : 279 ≤ n) (hP : PS b N S0 S q g m) : AM yX7_scan cX7_scan 2 none [] 1 0 0 [.ref 267] n (Hp S) (PVe n (fun S' => GD b N S0 S' (run b N 0 q, g, m))) := by
  intro has
  change WA RX7 cX7_scan 2 [] _ _ 0 0 0 [some (.ref 267), none] [] n _
  refine lp_skip hn (N - q) q S rfl hP (fun S' hP' => scan_tail hn hP' (VP_run hP.2.1.2) (fun S'' h => ⟨Nat.le_refl _, Nat.le_refl _, rfl, rfl, rfl, S'', rfl, h⟩))
def pNext (b : Nat → Int32) (N : Nat) (s : PST) : PR PST := .inr (nx b N s.1, s.2)
theorem HS.fr {b : Nat → Int32} {N : Nat} {S0 S : SS} {x : PR PST} (h : HS b N S0 S x) : FRP b N S0 S := by
  cases x with
  | inl e => exact h.1
  | inr s => exact h.1.1
theorem BD.n0 {b : Nat → Int32} {N : Nat} {S0 S : SS} {e : Nat × Nat} (h : BD b N S0 S e) : ¬ S.1 267 12 = 0 := by
  rw [h.2.1]; exact nI_nz h.2.2.1.1 (by have := h.2.2.1.2; omega)
theorem GD.g0 {b : Nat → Int32} {N : Nat} {S0 S : SS} {s : PST} (h : GD b N S0 S s) : S.1 267 12 = 0 := h.1.2.2.1
theorem GD.er {b : Nat → Int32} {N : Nat} {S0 S : SS} {s : PST} (h : GD b N S0 S s) {c : Nat} (h0 : 0 < c) (h6 : c < 6) : BD b N S0 (ss (ss S 267 12 (nI c)) 267 13 (S.1 267 9)) (c, s.1) :=
  ⟨(h.1.1.w (by omega) _).w (by omega) _, rfl, ⟨h0, h6⟩, h.2.1, by
    have e : (ss (ss S 267 12 (nI c)) 267 13 (S.1 267 9)).1 269 = s.2.1 := h.1.2.2.2.2.1
    rw [e]; exact h.1.2.2.2.2.2.2⟩
theorem mm_goNext {n : Nat} {S : SS} {b : Nat → Int32} {N : Nat} {S0 : SS} {x : PR PST} (hn : 279 ≤ n) (h : HS b N S0 S x) : AM yX7_goNext cX7_goNext 1 none [] 2 0 0 [.ref 267] n (Hp S) (PVe n (fun S' => HS b N S0 S' (pb x (pNext b N)))) := by
  cases x with
  | inl e =>
    intro has
    change WA RX7 cX7_goNext 1 [] _ _ 0 0 0 [some (.ref 267)] [] n _
    replace h : BD b N S0 S e := h
    refine wa_aload_n dX7_goNext_0 rfl ?_
    refine c_VI dX7_goNext_1 (mm_good hn) lk_X7_165 rfl (isO_MO _ _ _) rfl (ltS (by assumption)) ?_
    rw [b2i_0 h.n0]
    refine wa_if_eq 11 dX7_goNext_4 rfl (fun c4 => ?_) (fun c4 => absurd rfl c4)
    exact wa_return dX7_goNext_11 ⟨Nat.le_refl _, Nat.le_refl _, rfl, rfl, rfl, _, rfl, h⟩
  | inr s =>
    intro has
    change WA RX7 cX7_goNext 1 [] _ _ 0 0 0 [some (.ref 267)] [] n _
    replace h : GD b N S0 S s := h
    refine wa_aload_n dX7_goNext_0 rfl ?_
    refine c_VI dX7_goNext_1 (mm_good hn) lk_X7_165 rfl (isO_MO _ _ _) rfl (ltS (by assumption)) ?_
    rw [b2i_1 h.g0]
    refine wa_if_eq 11 dX7_goNext_4 rfl (fun c4 => absurd c4 (by decide)) (fun c4 => ?_)
    refine wa_aload_n dX7_goNext_7 rfl ?_
    refine c_VQV dX7_goNext_8 (mm_scan hn h.1) lk_X7_196 rfl (isO_MO _ _ _) rfl (ltS (by assumption)) (fun S1 h1 => ?_)
    exact wa_return dX7_goNext_11 ⟨Nat.le_refl _, Nat.le_refl _, rfl, rfl, rfl, _, rfl, h1⟩
