/-! ValveRoomModel: its answers. Written by program (wip/whole/gen/m570.py) but for the heads. -/
theorem row_net {S : SS} (h : mr S = 268) : row S = S.1 268 := congrArg S.1 h
theorem nI_inj {a b : Nat} (ha : a < 2 ^ 31) (hb : b < 2 ^ 31) (h : nI a = nI b) : a = b := by
  have e := congrArg Int32.toInt h
  rw [nI_toInt ha, nI_toInt hb] at e
  omega
theorem b2i_1 {P : Prop} [Decidable P] (h : P) : b2i P = 1 := if_pos h
theorem b2i_0 {P : Prop} [Decidable P] (h : ¬ P) : b2i P = 0 := if_neg h
theorem mm_target_1 {n : Nat} {S : SS} {T : Int} (hn : 279 ≤ n) (hm : mr S = 268) (hV : VG T (S.1 268)) (r : Int32) (h1 : ¬ (rk S r)) : AM yX7_target cX7_target 2 (some .int) [] 4 0 0 [.ref 267, .int r] n (Hp S) (PI 0 n (th S 1)) := by
  intro has
  change WA RX7 cX7_target 2 [] _ _ 0 0 0 [some (.ref 267), some (.int r)] [] n _
  have hVr : VG T (row S) := by rw [row_net hm]; exact hV
  refine wa_aload_n dX7_target_0 rfl ?_
  refine wa_aload_n dX7_target_1 rfl ?_
  refine wa_iload_n dX7_target_2 rfl ?_
  refine c_VI dX7_target_3 (mm_isRoom (by assumption) hVr r) lk_X7_347 rfl (isO_MO _ _ _) rfl (ltS (by assumption)) ?_
  refine c_VI dX7_target_6 (mm_passes1 (by assumption) (rk S r)) lk_X7_155 rfl (isO_MO _ _ _) rfl (ltS (by assumption)) ?_
  rw [b2i_0 (fun z => h1 z), if_neg h1]
  refine wa_if_eq 20 dX7_target_9 rfl (fun c9 => ?_) (fun c9 => absurd rfl c9)
  refine wa_iconst (x := 0) dX7_target_20 (by decide) ?_
  exact wa_ireturn dX7_target_21 ⟨Nat.le_refl _, Nat.le_refl _, ⟨_, rfl, rfl⟩, rfl, rfl, rfl⟩
theorem mm_target_0 {n : Nat} {S : SS} {T : Int} (hn : 279 ≤ n) (hm : mr S = 268) (hV : VG T (S.1 268)) {i : Nat} (hi : i < 6) (h1 : rk S (nI i)) : AM yX7_target cX7_target 2 (some .int) [] 4 0 0 [.ref 267, .int (nI i)] n (Hp S) (PI (tgt (S.1 268) i) n (th S 0)) := by
  intro has
  change WA RX7 cX7_target 2 [] _ _ 0 0 0 [some (.ref 267), some (.int (nI i))] [] n _
  have hVr : VG T (row S) := by rw [row_net hm]; exact hV
  have hV1 : VG T (row (th S 0)) := VG_th hVr 0
  refine wa_aload_n dX7_target_0 rfl ?_
  refine wa_aload_n dX7_target_1 rfl ?_
  refine wa_iload_n dX7_target_2 rfl ?_
  refine c_VI dX7_target_3 (mm_isRoom (by assumption) hVr (nI i)) lk_X7_347 rfl (isO_MO _ _ _) rfl (ltS (by assumption)) ?_
  refine c_VI dX7_target_6 (mm_passes1 (by assumption) (rk S (nI i))) lk_X7_155 rfl (isO_MO _ _ _) rfl (ltS (by assumption)) ?_
  rw [b2i_1 h1, if_pos h1]
  refine wa_if_eq 20 dX7_target_9 rfl (fun c9 => absurd c9 (by decide)) (fun c9 => ?_)
  refine wa_aload_n dX7_target_12 rfl ?_
  refine wa_iload_n dX7_target_13 rfl ?_
  refine c_VI dX7_target_14 (mt_targetOf (by assumption) (by assumption) (by assumption)) lk_X7_78 rfl (isO_MO _ _ _) rfl (ltS (by assumption)) ?_
  refine wa_goto 21 dX7_target_17 rfl ?_
  exact wa_ireturn dX7_target_21 ⟨Nat.le_refl _, Nat.le_refl _, ⟨_, rfl, rfl⟩, (ri (by simp only [row_th, row_net hm])), rfl, rfl⟩
theorem mm_wanted_1 {n : Nat} {S : SS} {T : Int} (hn : 279 ≤ n) (hm : mr S = 268) (hV : VG T (S.1 268)) (r : Int32) (h1 : ¬ (rk S r)) : AM yX7_wanted cX7_wanted 2 (some .int) [] 6 0 0 [.ref 267, .int r] n (Hp S) (PI 0 n (th S 1)) := by
  intro has
  change WA RX7 cX7_wanted 2 [] _ _ 0 0 0 [some (.ref 267), some (.int r)] [] n _
  have hVr : VG T (row S) := by rw [row_net hm]; exact hV
  refine wa_aload_n dX7_wanted_0 rfl ?_
  refine wa_aload_n dX7_wanted_1 rfl ?_
  refine wa_iload_n dX7_wanted_2 rfl ?_
  refine c_VI dX7_wanted_3 (mm_isRoom (by assumption) hVr r) lk_X7_347 rfl (isO_MO _ _ _) rfl (ltS (by assumption)) ?_
  refine c_VI dX7_wanted_6 (mm_passes1 (by assumption) (rk S r)) lk_X7_155 rfl (isO_MO _ _ _) rfl (ltS (by assumption)) ?_
  rw [b2i_0 (fun z => h1 z), if_neg h1]
  refine wa_if_eq 20 dX7_wanted_9 rfl (fun c9 => ?_) (fun c9 => absurd rfl c9)
  refine wa_iconst (x := 0) dX7_wanted_20 (by decide) ?_
  exact wa_ireturn dX7_wanted_21 ⟨Nat.le_refl _, Nat.le_refl _, ⟨_, rfl, rfl⟩, rfl, rfl, rfl⟩
theorem mm_wanted_0 {n : Nat} {S : SS} {T : Int} (hn : 279 ≤ n) (hm : mr S = 268) (hV : VG T (S.1 268)) {i : Nat} (hi : i < 6) (h1 : rk S (nI i)) : AM yX7_wanted cX7_wanted 2 (some .int) [] 6 0 0 [.ref 267, .int (nI i)] n (Hp S) (PI (wnt (S.1 268) i) n (th S 0)) := by
  intro has
  change WA RX7 cX7_wanted 2 [] _ _ 0 0 0 [some (.ref 267), some (.int (nI i))] [] n _
  have hVr : VG T (row S) := by rw [row_net hm]; exact hV
  have hV1 : VG T (row (th S 0)) := VG_th hVr 0
  refine wa_aload_n dX7_wanted_0 rfl ?_
  refine wa_aload_n dX7_wanted_1 rfl ?_
  refine wa_iload_n dX7_wanted_2 rfl ?_
  refine c_VI dX7_wanted_3 (mm_isRoom (by assumption) hVr (nI i)) lk_X7_347 rfl (isO_MO _ _ _) rfl (ltS (by assumption)) ?_
  refine c_VI dX7_wanted_6 (mm_passes1 (by assumption) (rk S (nI i))) lk_X7_155 rfl (isO_MO _ _ _) rfl (ltS (by assumption)) ?_
  rw [b2i_1 h1, if_pos h1]
  refine wa_if_eq 20 dX7_wanted_9 rfl (fun c9 => absurd c9 (by decide)) (fun c9 => ?_)
  refine wa_aload_n dX7_wanted_12 rfl ?_
  refine wa_iload_n dX7_wanted_13 rfl ?_
  refine c_VI dX7_wanted_14 (mt_wantedIn (by assumption) (by assumption) (by assumption)) lk_X7_129 rfl (isO_MO _ _ _) rfl (ltS (by assumption)) ?_
  refine wa_goto 21 dX7_wanted_17 rfl ?_
  exact wa_ireturn dX7_wanted_21 ⟨Nat.le_refl _, Nat.le_refl _, ⟨_, rfl, rfl⟩, (ri (by simp only [row_th, row_net hm])), rfl, rfl⟩
theorem mm_reckoned_1 {n : Nat} {S : SS} {T : Int} (hn : 279 ≤ n) (hm : mr S = 268) (hV : VG T (S.1 268)) (r : Int32) (h1 : ¬ (rk S r)) : AM yX7_reckoned cX7_reckoned 2 (some .int) [] 2 0 0 [.ref 267, .int r] n (Hp S) (PI 0 n (th S 1)) := by
  intro has
  change WA RX7 cX7_reckoned 2 [] _ _ 0 0 0 [some (.ref 267), some (.int r)] [] n _
  have hVr : VG T (row S) := by rw [row_net hm]; exact hV
  refine wa_aload_n dX7_reckoned_0 rfl ?_
  refine wa_aload_n dX7_reckoned_1 rfl ?_
  refine wa_iload_n dX7_reckoned_2 rfl ?_
  refine c_VI dX7_reckoned_3 (mm_isRoom (by assumption) hVr r) lk_X7_347 rfl (isO_MO _ _ _) rfl (ltS (by assumption)) ?_
  refine c_VI dX7_reckoned_6 (mm_passes1 (by assumption) (rk S r)) lk_X7_155 rfl (isO_MO _ _ _) rfl (ltS (by assumption)) ?_
  rw [b2i_0 (fun z => h1 z), if_neg h1]
  refine wa_if_eq 21 dX7_reckoned_9 rfl (fun c9 => ?_) (fun c9 => absurd rfl c9)
  refine wa_iconst (x := 0) dX7_reckoned_21 (by decide) ?_
  exact wa_ireturn dX7_reckoned_22 ⟨Nat.le_refl _, Nat.le_refl _, ⟨_, rfl, rfl⟩, rfl, rfl, rfl⟩
theorem mm_reckoned_0 {n : Nat} {S : SS} {T : Int} (hn : 279 ≤ n) (hm : mr S = 268) (hV : VG T (S.1 268)) {i : Nat} (hi : i < 6) (h1 : rk S (nI i)) : AM yX7_reckoned cX7_reckoned 2 (some .int) [] 2 0 0 [.ref 267, .int (nI i)] n (Hp S) (PI (of (S.1 268) i 2) n (th S 0)) := by
  intro has
  change WA RX7 cX7_reckoned 2 [] _ _ 0 0 0 [some (.ref 267), some (.int (nI i))] [] n _
  have hVr : VG T (row S) := by rw [row_net hm]; exact hV
  have hV1 : VG T (row (th S 0)) := VG_th hVr 0
  refine wa_aload_n dX7_reckoned_0 rfl ?_
  refine wa_aload_n dX7_reckoned_1 rfl ?_
  refine wa_iload_n dX7_reckoned_2 rfl ?_
  refine c_VI dX7_reckoned_3 (mm_isRoom (by assumption) hVr (nI i)) lk_X7_347 rfl (isO_MO _ _ _) rfl (ltS (by assumption)) ?_
  refine c_VI dX7_reckoned_6 (mm_passes1 (by assumption) (rk S (nI i))) lk_X7_155 rfl (isO_MO _ _ _) rfl (ltS (by assumption)) ?_
  rw [b2i_1 h1, if_pos h1]
  refine wa_if_eq 21 dX7_reckoned_9 rfl (fun c9 => absurd c9 (by decide)) (fun c9 => ?_)
  refine wa_aload_n dX7_reckoned_12 rfl ?_
  refine wa_iload_n dX7_reckoned_13 rfl ?_
  refine wa_iconst (x := 2) dX7_reckoned_14 (by decide) ?_
  refine c_VI dX7_reckoned_15 (mm_of2 (w := 2) (by assumption) (by assumption) (by decide)) lk_X7_68 rfl (isO_MO _ _ _) rfl (ltS (by assumption)) ?_
  refine wa_goto 22 dX7_reckoned_18 rfl ?_
  exact wa_ireturn dX7_reckoned_22 ⟨Nat.le_refl _, Nat.le_refl _, ⟨_, rfl, rfl⟩, (ri (by simp only [row_th, row_net hm])), rfl, rfl⟩
theorem mm_count_1 {n : Nat} {S : SS} {T : Int} (hn : 279 ≤ n) (hm : mr S = 268) (hV : VG T (S.1 268)) (r what : Int32) (h1 : ¬ (rk S r)) : AM yX7_count cX7_count 3 (some .int) [] 2 0 0 [.ref 267, .int r, .int what] n (Hp S) (PI 0 n (th S 1)) := by
  intro has
  change WA RX7 cX7_count 3 [] _ _ 0 0 0 [some (.ref 267), some (.int r), some (.int what)] [] n _
  have hVr : VG T (row S) := by rw [row_net hm]; exact hV
  refine wa_aload_n dX7_count_0 rfl ?_
  refine wa_aload_n dX7_count_1 rfl ?_
  refine wa_iload_n dX7_count_2 rfl ?_
  refine c_VI dX7_count_3 (mm_isRoom (by assumption) hVr r) lk_X7_347 rfl (isO_MO _ _ _) rfl (ltS (by assumption)) ?_
  refine wa_iload_n dX7_count_6 rfl ?_
  refine c_SI dX7_count_7 (mm_isCount _) lk_X7_358 rfl ?_
  refine c_VI dX7_count_10 (mm_passesP (by assumption) (rk S r) (inr what 0 5)) lk_X7_352 rfl (isO_MO _ _ _) rfl (ltS (by assumption)) ?_
  rw [b2i_0 (fun z => h1 z.1), if_neg h1]
  refine wa_if_eq 28 dX7_count_13 rfl (fun c13 => ?_) (fun c13 => absurd rfl c13)
  refine wa_iconst (x := 0) dX7_count_28 (by decide) ?_
  exact wa_ireturn dX7_count_29 ⟨Nat.le_refl _, Nat.le_refl _, ⟨_, rfl, rfl⟩, rfl, rfl, rfl⟩
theorem mm_count_2 {n : Nat} {S : SS} {T : Int} (hn : 279 ≤ n) (hm : mr S = 268) (hV : VG T (S.1 268)) (r what : Int32) (h1 : rk S r) (h2 : ¬ (inr what 0 5)) : AM yX7_count cX7_count 3 (some .int) [] 2 0 0 [.ref 267, .int r, .int what] n (Hp S) (PI 0 n (th S 2)) := by
  intro has
  change WA RX7 cX7_count 3 [] _ _ 0 0 0 [some (.ref 267), some (.int r), some (.int what)] [] n _
  have hVr : VG T (row S) := by rw [row_net hm]; exact hV
  refine wa_aload_n dX7_count_0 rfl ?_
  refine wa_aload_n dX7_count_1 rfl ?_
  refine wa_iload_n dX7_count_2 rfl ?_
  refine c_VI dX7_count_3 (mm_isRoom (by assumption) hVr r) lk_X7_347 rfl (isO_MO _ _ _) rfl (ltS (by assumption)) ?_
  refine wa_iload_n dX7_count_6 rfl ?_
  refine c_SI dX7_count_7 (mm_isCount _) lk_X7_358 rfl ?_
  refine c_VI dX7_count_10 (mm_passesP (by assumption) (rk S r) (inr what 0 5)) lk_X7_352 rfl (isO_MO _ _ _) rfl (ltS (by assumption)) ?_
  rw [b2i_0 (fun z => h2 z.2), if_pos h1, if_neg h2]
  refine wa_if_eq 28 dX7_count_13 rfl (fun c13 => ?_) (fun c13 => absurd rfl c13)
  refine wa_iconst (x := 0) dX7_count_28 (by decide) ?_
  exact wa_ireturn dX7_count_29 ⟨Nat.le_refl _, Nat.le_refl _, ⟨_, rfl, rfl⟩, rfl, rfl, rfl⟩
theorem mm_count_0 {n : Nat} {S : SS} {T : Int} (hn : 279 ≤ n) (hm : mr S = 268) (hV : VG T (S.1 268)) {i : Nat} (hi : i < 6) {w : Nat} (hw : w < 6) (h1 : rk S (nI i)) (h2 : inr (nI w) 0 5) : AM yX7_count cX7_count 3 (some .int) [] 2 0 0 [.ref 267, .int (nI i), .int (nI w)] n (Hp S) (PI (of (S.1 268) i (12 + w)) n (th S 0)) := by
  intro has
  change WA RX7 cX7_count 3 [] _ _ 0 0 0 [some (.ref 267), some (.int (nI i)), some (.int (nI w))] [] n _
  have hVr : VG T (row S) := by rw [row_net hm]; exact hV
  have hV1 : VG T (row (th S 0)) := VG_th hVr 0
  refine wa_aload_n dX7_count_0 rfl ?_
  refine wa_aload_n dX7_count_1 rfl ?_
  refine wa_iload_n dX7_count_2 rfl ?_
  refine c_VI dX7_count_3 (mm_isRoom (by assumption) hVr (nI i)) lk_X7_347 rfl (isO_MO _ _ _) rfl (ltS (by assumption)) ?_
  refine wa_iload_n dX7_count_6 rfl ?_
  refine c_SI dX7_count_7 (mm_isCount _) lk_X7_358 rfl ?_
  refine c_VI dX7_count_10 (mm_passesP (by assumption) (rk S (nI i)) (inr (nI w) 0 5)) lk_X7_352 rfl (isO_MO _ _ _) rfl (ltS (by assumption)) ?_
  rw [b2i_1 ⟨h1, h2⟩, if_pos h1, if_pos h2]
  refine wa_if_eq 28 dX7_count_13 rfl (fun c13 => absurd c13 (by decide)) (fun c13 => ?_)
  refine wa_aload_n dX7_count_16 rfl ?_
  refine wa_iload_n dX7_count_17 rfl ?_
  refine wa_bipush (x := 12) dX7_count_18 (by decide) ?_
  refine wa_iload_n dX7_count_20 rfl ?_
  refine wa_iadd dX7_count_21 ?_
  rw [show (12 : Int32) + nI w = nI (12 + w) from nI_add 12 w]
  refine c_VI dX7_count_22 (mm_of2 (w := 12 + w) (by assumption) (by assumption) (by omega)) lk_X7_68 rfl (isO_MO _ _ _) rfl (ltS (by assumption)) ?_
  refine wa_goto 29 dX7_count_25 rfl ?_
  exact wa_ireturn dX7_count_29 ⟨Nat.le_refl _, Nat.le_refl _, ⟨_, rfl, rfl⟩, (ri (by simp only [row_th, row_net hm])), rfl, rfl⟩
theorem mm_programmed_1 {n : Nat} {S : SS} {T : Int} (hn : 279 ≤ n) (hm : mr S = 268) (hV : VG T (S.1 268)) (r what : Int32) (h1 : ¬ (rk S r)) : AM yX7_programmed cX7_programmed 3 (some .int) [] 4 0 0 [.ref 267, .int r, .int what] n (Hp S) (PI 0 n (th S 1)) := by
  intro has
  change WA RX7 cX7_programmed 3 [] _ _ 0 0 0 [some (.ref 267), some (.int r), some (.int what)] [] n _
  have hVr : VG T (row S) := by rw [row_net hm]; exact hV
  refine wa_aload_n dX7_programmed_0 rfl ?_
  refine wa_aload_n dX7_programmed_1 rfl ?_
  refine wa_iload_n dX7_programmed_2 rfl ?_
  refine c_VI dX7_programmed_3 (mm_isRoom (by assumption) hVr r) lk_X7_347 rfl (isO_MO _ _ _) rfl (ltS (by assumption)) ?_
  refine wa_iload_n dX7_programmed_6 rfl ?_
  refine c_SI dX7_programmed_7 (mm_isTick _) lk_X7_363 rfl ?_
  refine c_VI dX7_programmed_10 (mm_passesP (by assumption) (rk S r) (inr what 0 47)) lk_X7_352 rfl (isO_MO _ _ _) rfl (ltS (by assumption)) ?_
  rw [b2i_0 (fun z => h1 z.1), if_neg h1]
  refine wa_if_eq 25 dX7_programmed_13 rfl (fun c13 => ?_) (fun c13 => absurd rfl c13)
  refine wa_iconst (x := 0) dX7_programmed_25 (by decide) ?_
  exact wa_ireturn dX7_programmed_26 ⟨Nat.le_refl _, Nat.le_refl _, ⟨_, rfl, rfl⟩, rfl, rfl, rfl⟩
theorem mm_programmed_2 {n : Nat} {S : SS} {T : Int} (hn : 279 ≤ n) (hm : mr S = 268) (hV : VG T (S.1 268)) (r what : Int32) (h1 : rk S r) (h2 : ¬ (inr what 0 47)) : AM yX7_programmed cX7_programmed 3 (some .int) [] 4 0 0 [.ref 267, .int r, .int what] n (Hp S) (PI 0 n (th S 2)) := by
  intro has
  change WA RX7 cX7_programmed 3 [] _ _ 0 0 0 [some (.ref 267), some (.int r), some (.int what)] [] n _
  have hVr : VG T (row S) := by rw [row_net hm]; exact hV
  refine wa_aload_n dX7_programmed_0 rfl ?_
  refine wa_aload_n dX7_programmed_1 rfl ?_
  refine wa_iload_n dX7_programmed_2 rfl ?_
  refine c_VI dX7_programmed_3 (mm_isRoom (by assumption) hVr r) lk_X7_347 rfl (isO_MO _ _ _) rfl (ltS (by assumption)) ?_
  refine wa_iload_n dX7_programmed_6 rfl ?_
  refine c_SI dX7_programmed_7 (mm_isTick _) lk_X7_363 rfl ?_
  refine c_VI dX7_programmed_10 (mm_passesP (by assumption) (rk S r) (inr what 0 47)) lk_X7_352 rfl (isO_MO _ _ _) rfl (ltS (by assumption)) ?_
  rw [b2i_0 (fun z => h2 z.2), if_pos h1, if_neg h2]
  refine wa_if_eq 25 dX7_programmed_13 rfl (fun c13 => ?_) (fun c13 => absurd rfl c13)
  refine wa_iconst (x := 0) dX7_programmed_25 (by decide) ?_
  exact wa_ireturn dX7_programmed_26 ⟨Nat.le_refl _, Nat.le_refl _, ⟨_, rfl, rfl⟩, rfl, rfl, rfl⟩
theorem mm_programmed_0 {n : Nat} {S : SS} {T : Int} (hn : 279 ≤ n) (hm : mr S = 268) (hV : VG T (S.1 268)) {i : Nat} (hi : i < 6) {w : Nat} (hw : w < 48) (h1 : rk S (nI i)) (h2 : inr (nI w) 0 47) : AM yX7_programmed cX7_programmed 3 (some .int) [] 4 0 0 [.ref 267, .int (nI i), .int (nI w)] n (Hp S) (PI (told (pg (S.1 268) i) w) n (th S 0)) := by
  intro has
  change WA RX7 cX7_programmed 3 [] _ _ 0 0 0 [some (.ref 267), some (.int (nI i)), some (.int (nI w))] [] n _
  have hVr : VG T (row S) := by rw [row_net hm]; exact hV
  have hV1 : VG T (row (th S 0)) := VG_th hVr 0
  refine wa_aload_n dX7_programmed_0 rfl ?_
  refine wa_aload_n dX7_programmed_1 rfl ?_
  refine wa_iload_n dX7_programmed_2 rfl ?_
  refine c_VI dX7_programmed_3 (mm_isRoom (by assumption) hVr (nI i)) lk_X7_347 rfl (isO_MO _ _ _) rfl (ltS (by assumption)) ?_
  refine wa_iload_n dX7_programmed_6 rfl ?_
  refine c_SI dX7_programmed_7 (mm_isTick _) lk_X7_363 rfl ?_
  refine c_VI dX7_programmed_10 (mm_passesP (by assumption) (rk S (nI i)) (inr (nI w) 0 47)) lk_X7_352 rfl (isO_MO _ _ _) rfl (ltS (by assumption)) ?_
  rw [b2i_1 ⟨h1, h2⟩, if_pos h1, if_pos h2]
  refine wa_if_eq 25 dX7_programmed_13 rfl (fun c13 => absurd c13 (by decide)) (fun c13 => ?_)
  refine wa_aload_n dX7_programmed_16 rfl ?_
  refine wa_iload_n dX7_programmed_17 rfl ?_
  refine wa_iload_n dX7_programmed_18 rfl ?_
  refine c_VI dX7_programmed_19 (mm_toldFor (by assumption) (by assumption) (hV1.2.2.2.2 i) hw) lk_X7_75 rfl (isO_MO _ _ _) rfl (ltS (by assumption)) ?_
  refine wa_goto 26 dX7_programmed_22 rfl ?_
  exact wa_ireturn dX7_programmed_26 ⟨Nat.le_refl _, Nat.le_refl _, ⟨_, rfl, rfl⟩, (ri (by simp only [row_th, row_net hm])), rfl, rfl⟩
theorem mm_sum_1 {n : Nat} {S : SS} {T : Int} (hn : 279 ≤ n) (hm : mr S = 268) (hV : VG T (S.1 268)) (what : Int32) (h1 : ¬ (inr what 0 5)) : AM yX7_sum cX7_sum 2 (some .int) [] 3 0 0 [.ref 267, .int what] n (Hp S) (PI 0 n (th S 1)) := by
  intro has
  change WA RX7 cX7_sum 2 [] _ _ 0 0 0 [some (.ref 267), some (.int what)] [] n _
  have hVr : VG T (row S) := by rw [row_net hm]; exact hV
  refine wa_aload_n dX7_sum_0 rfl ?_
  refine wa_iload_n dX7_sum_1 rfl ?_
  refine c_SI dX7_sum_2 (mm_isCount _) lk_X7_358 rfl ?_
  refine c_VI dX7_sum_5 (mm_passes1 (by assumption) (inr what 0 5)) lk_X7_155 rfl (isO_MO _ _ _) rfl (ltS (by assumption)) ?_
  rw [b2i_0 (fun z => h1 z), if_neg h1]
  refine wa_if_eq 22 dX7_sum_8 rfl (fun c8 => ?_) (fun c8 => absurd rfl c8)
  refine wa_iconst (x := 0) dX7_sum_22 (by decide) ?_
  exact wa_ireturn dX7_sum_23 ⟨Nat.le_refl _, Nat.le_refl _, ⟨_, rfl, rfl⟩, rfl, rfl, rfl⟩
theorem mm_sum_0 {n : Nat} {S : SS} {T : Int} (hn : 279 ≤ n) (hm : mr S = 268) (hV : VG T (S.1 268)) {w : Nat} (hw : w < 6) (h1 : inr (nI w) 0 5) : AM yX7_sum cX7_sum 2 (some .int) [] 3 0 0 [.ref 267, .int (nI w)] n (Hp S) (PI (sumN (S.1 268) (12 + w) (rn (S.1 268))) n (th S 0)) := by
  intro has
  change WA RX7 cX7_sum 2 [] _ _ 0 0 0 [some (.ref 267), some (.int (nI w))] [] n _
  have hVr : VG T (row S) := by rw [row_net hm]; exact hV
  have hV1 : VG T (row (th S 0)) := VG_th hVr 0
  refine wa_aload_n dX7_sum_0 rfl ?_
  refine wa_iload_n dX7_sum_1 rfl ?_
  refine c_SI dX7_sum_2 (mm_isCount _) lk_X7_358 rfl ?_
  refine c_VI dX7_sum_5 (mm_passes1 (by assumption) (inr (nI w) 0 5)) lk_X7_155 rfl (isO_MO _ _ _) rfl (ltS (by assumption)) ?_
  rw [b2i_1 h1, if_pos h1]
  refine wa_if_eq 22 dX7_sum_8 rfl (fun c8 => absurd c8 (by decide)) (fun c8 => ?_)
  refine wa_aload_n dX7_sum_11 rfl ?_
  refine wa_bipush (x := 12) dX7_sum_12 (by decide) ?_
  refine wa_iload_n dX7_sum_14 rfl ?_
  refine wa_iadd dX7_sum_15 ?_
  rw [show (12 : Int32) + nI w = nI (12 + w) from nI_add 12 w]
  refine c_VI dX7_sum_16 (mm_sumOf (w := 12 + w) (by assumption) (by omega) hV1) lk_X7_385 rfl (isO_MO _ _ _) rfl (ltS (by assumption)) ?_
  refine wa_goto 23 dX7_sum_19 rfl ?_
  exact wa_ireturn dX7_sum_23 ⟨Nat.le_refl _, Nat.le_refl _, ⟨_, rfl, rfl⟩, (ri (by simp only [row_th, row_net hm])), rfl, rfl⟩
theorem mm_room_1 {n : Nat} {S : SS} {T : Int} (hn : 279 ≤ n) (hm : mr S = 268) (hV : VG T (S.1 268)) (r what : Int32) (h1 : ¬ (rk S r)) : AM yX7_room cX7_room 4 (some .int) [] 2 0 0 [.ref 267, .int r, .int what] n (Hp S) (PI 0 n (th S 1)) := by
  intro has
  change WA RX7 cX7_room 4 [] _ _ 0 0 0 [some (.ref 267), some (.int r), some (.int what), none] [] n _
  have hVr : VG T (row S) := by rw [row_net hm]; exact hV
  refine wa_aload_n dX7_room_0 rfl ?_
  refine wa_aload_n dX7_room_1 rfl ?_
  refine wa_iload_n dX7_room_2 rfl ?_
  refine c_VI dX7_room_3 (mm_isRoom (by assumption) hVr r) lk_X7_347 rfl (isO_MO _ _ _) rfl (ltS (by assumption)) ?_
  refine wa_iload_n dX7_room_6 rfl ?_
  refine wa_i2l dX7_room_7 ?_
  refine wa_lconst (x := 0) dX7_room_8 (by decide) ?_
  refine wa_ldc2 dX7_room_9 wv_X7_350 ?_
  refine c_SI dX7_room_12 (mm_inI (a := what) (b := 0) (c := 10) (by decide) (by decide)) lk_X7_60 rfl ?_
  refine c_VI dX7_room_15 (mm_passesP (by assumption) (rk S r) (inr what 0 10)) lk_X7_352 rfl (isO_MO _ _ _) rfl (ltS (by assumption)) ?_
  rw [b2i_0 (fun z => h1 z.1), if_neg h1]
  refine wa_if_ne 23 dX7_room_18 rfl (fun c18 => absurd rfl c18) (fun c18 => ?_)
  refine wa_iconst (x := 0) dX7_room_21 (by decide) ?_
  exact wa_ireturn dX7_room_22 ⟨Nat.le_refl _, Nat.le_refl _, ⟨_, rfl, rfl⟩, rfl, rfl, rfl⟩
theorem mm_room_2 {n : Nat} {S : SS} {T : Int} (hn : 279 ≤ n) (hm : mr S = 268) (hV : VG T (S.1 268)) (r what : Int32) (h1 : rk S r) (h2 : ¬ (inr what 0 10)) : AM yX7_room cX7_room 4 (some .int) [] 2 0 0 [.ref 267, .int r, .int what] n (Hp S) (PI 0 n (th S 2)) := by
  intro has
  change WA RX7 cX7_room 4 [] _ _ 0 0 0 [some (.ref 267), some (.int r), some (.int what), none] [] n _
  have hVr : VG T (row S) := by rw [row_net hm]; exact hV
  refine wa_aload_n dX7_room_0 rfl ?_
  refine wa_aload_n dX7_room_1 rfl ?_
  refine wa_iload_n dX7_room_2 rfl ?_
  refine c_VI dX7_room_3 (mm_isRoom (by assumption) hVr r) lk_X7_347 rfl (isO_MO _ _ _) rfl (ltS (by assumption)) ?_
  refine wa_iload_n dX7_room_6 rfl ?_
  refine wa_i2l dX7_room_7 ?_
  refine wa_lconst (x := 0) dX7_room_8 (by decide) ?_
  refine wa_ldc2 dX7_room_9 wv_X7_350 ?_
  refine c_SI dX7_room_12 (mm_inI (a := what) (b := 0) (c := 10) (by decide) (by decide)) lk_X7_60 rfl ?_
  refine c_VI dX7_room_15 (mm_passesP (by assumption) (rk S r) (inr what 0 10)) lk_X7_352 rfl (isO_MO _ _ _) rfl (ltS (by assumption)) ?_
  rw [b2i_0 (fun z => h2 z.2), if_pos h1, if_neg h2]
  refine wa_if_ne 23 dX7_room_18 rfl (fun c18 => absurd rfl c18) (fun c18 => ?_)
  refine wa_iconst (x := 0) dX7_room_21 (by decide) ?_
  exact wa_ireturn dX7_room_22 ⟨Nat.le_refl _, Nat.le_refl _, ⟨_, rfl, rfl⟩, rfl, rfl, rfl⟩
theorem mm_room_0 {n : Nat} {S : SS} {T : Int} (hn : 279 ≤ n) (hm : mr S = 268) (hV : VG T (S.1 268)) {i : Nat} (hi : i < 6) {w : Nat} (hw : w < 11) (h1 : rk S (nI i)) (h2 : inr (nI w) 0 10) : AM yX7_room cX7_room 4 (some .int) [] 2 0 0 [.ref 267, .int (nI i), .int (nI w)] n (Hp S) (PI (if w = 8 ∧ of (S.1 268) i 9 = 0 then -1 else of (S.1 268) i w) n (th S 0)) := by
  intro has
  change WA RX7 cX7_room 4 [] _ _ 0 0 0 [some (.ref 267), some (.int (nI i)), some (.int (nI w)), none] [] n _
  have hVr : VG T (row S) := by rw [row_net hm]; exact hV
  have hV1 : VG T (row (th S 0)) := VG_th hVr 0
  have hq : nI w = 8 ↔ w = 8 := ⟨nI_inj (b := 8) (by omega) (by decide), fun h => by rw [h]; rfl⟩
  refine wa_aload_n dX7_room_0 rfl ?_
  refine wa_aload_n dX7_room_1 rfl ?_
  refine wa_iload_n dX7_room_2 rfl ?_
  refine c_VI dX7_room_3 (mm_isRoom (by assumption) hVr (nI i)) lk_X7_347 rfl (isO_MO _ _ _) rfl (ltS (by assumption)) ?_
  refine wa_iload_n dX7_room_6 rfl ?_
  refine wa_i2l dX7_room_7 ?_
  refine wa_lconst (x := 0) dX7_room_8 (by decide) ?_
  refine wa_ldc2 dX7_room_9 wv_X7_350 ?_
  refine c_SI dX7_room_12 (mm_inI (a := (nI w)) (b := 0) (c := 10) (by decide) (by decide)) lk_X7_60 rfl ?_
  refine c_VI dX7_room_15 (mm_passesP (by assumption) (rk S (nI i)) (inr (nI w) 0 10)) lk_X7_352 rfl (isO_MO _ _ _) rfl (ltS (by assumption)) ?_
  rw [b2i_1 ⟨h1, h2⟩, if_pos h1, if_pos h2]
  refine wa_if_ne 23 dX7_room_18 rfl (fun c18 => ?_) (fun c18 => absurd c18 (by decide))
  refine wa_iload_n dX7_room_23 rfl ?_
  refine wa_bipush (x := 8) dX7_room_24 (by decide) ?_
  refine wa_icmp_ne 43 dX7_room_26 rfl (fun c26 => ?_) (fun c26 => ?_)
  · refine wa_iconst (x := 0) dX7_room_43 (by decide) ?_
    refine wa_istore_n dX7_room_44 rfl ?_
    refine wa_iload_n dX7_room_45 rfl ?_
    refine wa_if_eq 53 dX7_room_46 rfl (fun c46 => ?_) (fun c46 => ?_)
    · refine wa_aload_n dX7_room_53 rfl ?_
      refine wa_iload_n dX7_room_54 rfl ?_
      refine wa_iload_n dX7_room_55 rfl ?_
      refine c_VI dX7_room_56 (mm_of2 (w := w) (by assumption) (by assumption) (by omega)) lk_X7_68 rfl (isO_MO _ _ _) rfl (ltS (by assumption)) ?_
      first
      | exact absurd rfl c46
      | exact absurd c46 (by decide)
      | exact wa_ireturn dX7_room_59 ⟨Nat.le_refl _, Nat.le_refl _, ⟨_, rfl, rfl⟩, (ri (by simp only [row_th, row_net hm] at *; simp_all; done)), rfl, rfl⟩
    · refine wa_iconst (x := (-1)) dX7_room_49 (by decide) ?_
      refine wa_goto 59 dX7_room_50 rfl ?_
      first
      | exact absurd rfl c46
      | exact absurd c46 (by decide)
      | exact wa_ireturn dX7_room_59 ⟨Nat.le_refl _, Nat.le_refl _, ⟨_, rfl, rfl⟩, (ri (by simp only [row_th, row_net hm] at *; simp_all; done)), rfl, rfl⟩
  · refine wa_aload_n dX7_room_29 rfl ?_
    refine wa_iload_n dX7_room_30 rfl ?_
    refine wa_bipush (x := 9) dX7_room_31 (by decide) ?_
    refine c_VI dX7_room_33 (mm_of2 (w := 9) (by assumption) (by assumption) (by decide)) lk_X7_68 rfl (isO_MO _ _ _) rfl (ltS (by assumption)) ?_
    refine wa_if_ne 43 dX7_room_36 rfl (fun c36 => ?_) (fun c36 => ?_)
    · refine wa_iconst (x := 0) dX7_room_43 (by decide) ?_
      refine wa_istore_n dX7_room_44 rfl ?_
      refine wa_iload_n dX7_room_45 rfl ?_
      refine wa_if_eq 53 dX7_room_46 rfl (fun c46 => ?_) (fun c46 => ?_)
      · refine wa_aload_n dX7_room_53 rfl ?_
        refine wa_iload_n dX7_room_54 rfl ?_
        refine wa_iload_n dX7_room_55 rfl ?_
        refine c_VI dX7_room_56 (mm_of2 (w := w) (by assumption) (by assumption) (by omega)) lk_X7_68 rfl (isO_MO _ _ _) rfl (ltS (by assumption)) ?_
        first
        | exact absurd rfl c46
        | exact absurd c46 (by decide)
        | exact wa_ireturn dX7_room_59 ⟨Nat.le_refl _, Nat.le_refl _, ⟨_, rfl, rfl⟩, (ri (by simp only [row_th, row_net hm] at *; simp_all; done)), rfl, rfl⟩
      · refine wa_iconst (x := (-1)) dX7_room_49 (by decide) ?_
        refine wa_goto 59 dX7_room_50 rfl ?_
        first
        | exact absurd rfl c46
        | exact absurd c46 (by decide)
        | exact wa_ireturn dX7_room_59 ⟨Nat.le_refl _, Nat.le_refl _, ⟨_, rfl, rfl⟩, (ri (by simp only [row_th, row_net hm] at *; simp_all; done)), rfl, rfl⟩
    · refine wa_iconst (x := 1) dX7_room_39 (by decide) ?_
      refine wa_goto 44 dX7_room_40 rfl ?_
      refine wa_istore_n dX7_room_44 rfl ?_
      refine wa_iload_n dX7_room_45 rfl ?_
      refine wa_if_eq 53 dX7_room_46 rfl (fun c46 => ?_) (fun c46 => ?_)
      · refine wa_aload_n dX7_room_53 rfl ?_
        refine wa_iload_n dX7_room_54 rfl ?_
        refine wa_iload_n dX7_room_55 rfl ?_
        refine c_VI dX7_room_56 (mm_of2 (w := w) (by assumption) (by assumption) (by omega)) lk_X7_68 rfl (isO_MO _ _ _) rfl (ltS (by assumption)) ?_
        first
        | exact absurd rfl c46
        | exact absurd c46 (by decide)
        | exact wa_ireturn dX7_room_59 ⟨Nat.le_refl _, Nat.le_refl _, ⟨_, rfl, rfl⟩, (ri (by simp only [row_th, row_net hm] at *; simp_all; done)), rfl, rfl⟩
      · refine wa_iconst (x := (-1)) dX7_room_49 (by decide) ?_
        refine wa_goto 59 dX7_room_50 rfl ?_
        first
        | exact absurd rfl c46
        | exact absurd c46 (by decide)
        | exact wa_ireturn dX7_room_59 ⟨Nat.le_refl _, Nat.le_refl _, ⟨_, rfl, rfl⟩, (ri (by simp only [row_th, row_net hm] at *; simp_all; done)), rfl, rfl⟩
