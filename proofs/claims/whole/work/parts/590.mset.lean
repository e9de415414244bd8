/-! ValveRoomModel: changes. Written by program (wip/whole/gen/m590.py) but for the heads. -/
theorem rem_2 (S : SS) : (f_rem S).2 = S.2 := by
  unfold f_rem
  split <;> rfl
theorem rem1_n (m : Nat) (S : SS) {a : Nat} (h : ¬ a = 275) (h2 : ¬ a = 267) : (f_rem1 m S).1 a = S.1 a := by
  unfold f_rem1
  show (if a = 267 then _ else (if a = 275 then _ else S.1 a)) = _
  rw [if_neg h2, if_neg h]
theorem rem_n (S : SS) {a : Nat} (h : ¬ a = 275) (h2 : ¬ a = 267) : (f_rem S).1 a = S.1 a := by
  unfold f_rem
  split
  · rw [rem1_n _ _ h h2]
    show (if a = 267 then _ else (if a = 275 then _ else S.1 a)) = _
    rw [if_neg h2, if_neg h]
  · exact rem1_n _ _ h h2
theorem row_rem {S : SS} (hm : mr S = 268) : row (f_rem S) = S.1 268 := by
  show (f_rem S).1 (mr (f_rem S)) = _
  rw [mr_2 (rem_2 S), hm]
  exact rem_n S (by decide) (by decide)
theorem RM_th {S : SS} (h : RM S) (x : Int32) : RM (th S x) := by
  unfold RM
  rw [th_k S x (by decide)]
  exact h
theorem mm_becomes {n i w : Nat} {S : SS} (hn : 279 ≤ n) (hm : mr S = 268) (hM : RM S) (hi : i < 6) (hw : w < 66) (x : Int32) : AM yX7_becomes cX7_becomes 5 (some .int) [] 1 0 0 [.ref 267, .int (nI i), .int (nI w), .int x] n (Hp S) (PI (of (S.1 268) i w) n (md (fun g => pt g i w x) (f_rem S))) := by
  intro has
  change WA RX7 cX7_becomes 5 [] _ _ 0 0 0 [some (.ref 267), some (.int (nI i)), some (.int (nI w)), some (.int x), none] [] n _
  refine wa_aload_n dX7_becomes_0 rfl ?_
  refine c_VV dX7_becomes_1 (mm_remember (by assumption) (by assumption)) lk_X7_340 rfl (isO_MO _ _ _) rfl (ltS (by assumption)) ?_
  refine wa_aload_n dX7_becomes_4 rfl ?_
  refine wa_iload_n dX7_becomes_5 rfl ?_
  refine wa_iload_n dX7_becomes_6 rfl ?_
  refine c_VI dX7_becomes_7 (mm_of2 (w := w) (by assumption) hi hw) lk_X7_68 rfl (isO_MO _ _ _) rfl (ltS (by assumption)) ?_
  rw [row_rem hm]
  refine wa_istore dX7_becomes_10 rfl ?_
  refine wa_aload_n dX7_becomes_12 rfl ?_
  refine wa_iload_n dX7_becomes_13 rfl ?_
  refine wa_iload_n dX7_becomes_14 rfl ?_
  refine wa_iload_n dX7_becomes_15 rfl ?_
  refine c_VV dX7_becomes_16 (mm_put2 (w := w) (by assumption) hi hw x) lk_X7_105 rfl (isO_MO _ _ _) rfl (ltS (by assumption)) ?_
  refine wa_iload dX7_becomes_19 rfl ?_
  exact wa_ireturn dX7_becomes_21 ⟨Nat.le_refl _, Nat.le_refl _, ⟨_, rfl, rfl⟩, rfl, rfl, rfl⟩
theorem mm_newBattery_1 {n : Nat} {S : SS} {T : Int} (hn : 279 ≤ n) (hm : mr S = 268) (hV : VG T (S.1 268)) (hM : RM S) (hT : T < 2147400000) (r x : Int32) (h1 : ¬ (rk S r)) : AM yX7_newBattery cX7_newBattery 3 (some .int) [] 2 0 0 [.ref 267, .int r, .int x] n (Hp S) (PI 0 n (th S 1)) := by
  intro has
  change WA RX7 cX7_newBattery 3 [] _ _ 0 0 0 [some (.ref 267), some (.int r), some (.int x)] [] n _
  have hVr : VG T (row S) := by rw [row_net hm]; exact hV
  refine wa_aload_n dX7_newBattery_0 rfl ?_
  refine wa_aload_n dX7_newBattery_1 rfl ?_
  refine wa_iload_n dX7_newBattery_2 rfl ?_
  refine c_VI dX7_newBattery_3 (mm_isRoom (by assumption) hVr r) lk_X7_347 rfl (isO_MO _ _ _) rfl (ltS (by assumption)) ?_
  refine wa_iload_n dX7_newBattery_6 rfl ?_
  refine wa_i2l dX7_newBattery_7 ?_
  refine wa_lconst (x := 1) dX7_newBattery_8 (by decide) ?_
  refine wa_ldc2 dX7_newBattery_9 wv_X7_413 ?_
  refine c_SI dX7_newBattery_12 (mm_inI (a := x) (b := 1) (c := 9999) (by first | rfl | decide) (by first | rfl | decide)) lk_X7_60 rfl ?_
  refine c_VI dX7_newBattery_15 (mm_passesP (by assumption) (rk S r) (inr x 1 9999)) lk_X7_352 rfl (isO_MO _ _ _) rfl (ltS (by assumption)) ?_
  rw [b2i_0 (fun z => h1 z.1), if_neg h1]
  refine wa_if_eq 31 dX7_newBattery_18 rfl (fun c18 => ?_) (fun c18 => absurd rfl c18)
  refine wa_iconst (x := 0) dX7_newBattery_31 (by decide) ?_
  exact wa_ireturn dX7_newBattery_32 ⟨Nat.le_refl _, Nat.le_refl _, ⟨_, rfl, rfl⟩, rfl, rfl, rfl⟩
theorem mm_newBattery_2 {n : Nat} {S : SS} {T : Int} (hn : 279 ≤ n) (hm : mr S = 268) (hV : VG T (S.1 268)) (hM : RM S) (hT : T < 2147400000) (r x : Int32) (h1 : rk S r) (h2 : ¬ (inr x 1 9999)) : AM yX7_newBattery cX7_newBattery 3 (some .int) [] 2 0 0 [.ref 267, .int r, .int x] n (Hp S) (PI 0 n (th S 2)) := by
  intro has
  change WA RX7 cX7_newBattery 3 [] _ _ 0 0 0 [some (.ref 267), some (.int r), some (.int x)] [] n _
  have hVr : VG T (row S) := by rw [row_net hm]; exact hV
  refine wa_aload_n dX7_newBattery_0 rfl ?_
  refine wa_aload_n dX7_newBattery_1 rfl ?_
  refine wa_iload_n dX7_newBattery_2 rfl ?_
  refine c_VI dX7_newBattery_3 (mm_isRoom (by assumption) hVr r) lk_X7_347 rfl (isO_MO _ _ _) rfl (ltS (by assumption)) ?_
  refine wa_iload_n dX7_newBattery_6 rfl ?_
  refine wa_i2l dX7_newBattery_7 ?_
  refine wa_lconst (x := 1) dX7_newBattery_8 (by decide) ?_
  refine wa_ldc2 dX7_newBattery_9 wv_X7_413 ?_
  refine c_SI dX7_newBattery_12 (mm_inI (a := x) (b := 1) (c := 9999) (by first | rfl | decide) (by first | rfl | decide)) lk_X7_60 rfl ?_
  refine c_VI dX7_newBattery_15 (mm_passesP (by assumption) (rk S r) (inr x 1 9999)) lk_X7_352 rfl (isO_MO _ _ _) rfl (ltS (by assumption)) ?_
  rw [b2i_0 (fun z => h2 z.2), if_pos h1, if_neg h2]
  refine wa_if_eq 31 dX7_newBattery_18 rfl (fun c18 => ?_) (fun c18 => absurd rfl c18)
  refine wa_iconst (x := 0) dX7_newBattery_31 (by decide) ?_
  exact wa_ireturn dX7_newBattery_32 ⟨Nat.le_refl _, Nat.le_refl _, ⟨_, rfl, rfl⟩, rfl, rfl, rfl⟩
theorem mm_newBattery_0 {n : Nat} {S : SS} {T : Int} (hn : 279 ≤ n) (hm : mr S = 268) (hV : VG T (S.1 268)) (hM : RM S) (hT : T < 2147400000) {i : Nat} (hi : i < 6) (x : Int32) (h1 : rk S (nI i)) (h2 : inr x 1 9999) : AM yX7_newBattery cX7_newBattery 3 (some .int) [] 2 0 0 [.ref 267, .int (nI i), .int x] n (Hp S) (PI (of (S.1 268) i 2) n (md (fun g => pt g i (2) (x)) (f_rem (th S 0)))) := by
  intro has
  change WA RX7 cX7_newBattery 3 [] _ _ 0 0 0 [some (.ref 267), some (.int (nI i)), some (.int x)] [] n _
  have hVr : VG T (row S) := by rw [row_net hm]; exact hV
  have hV1 : VG T (row (th S 0)) := VG_th hVr 0
  have hM1 : RM (th S 0) := RM_th hM 0
  have em : (th S 0).1 268 = S.1 268 := th_n S 0 (by decide)
  have er : row (f_rem (th S 0)) = S.1 268 := (row_rem (S := th S 0) hm).trans em
  have en : (f_rem (th S 0)).1 268 = S.1 268 := (rem_n _ (by decide) (by decide)).trans em
  have hVm : VG T (row (f_rem (th S 0))) := by rw [er]; exact hV
  refine wa_aload_n dX7_newBattery_0 rfl ?_
  refine wa_aload_n dX7_newBattery_1 rfl ?_
  refine wa_iload_n dX7_newBattery_2 rfl ?_
  refine c_VI dX7_newBattery_3 (mm_isRoom (by assumption) hVr (nI i)) lk_X7_347 rfl (isO_MO _ _ _) rfl (ltS (by assumption)) ?_
  refine wa_iload_n dX7_newBattery_6 rfl ?_
  refine wa_i2l dX7_newBattery_7 ?_
  refine wa_lconst (x := 1) dX7_newBattery_8 (by decide) ?_
  refine wa_ldc2 dX7_newBattery_9 wv_X7_413 ?_
  refine c_SI dX7_newBattery_12 (mm_inI (a := x) (b := 1) (c := 9999) (by first | rfl | decide) (by first | rfl | decide)) lk_X7_60 rfl ?_
  refine c_VI dX7_newBattery_15 (mm_passesP (by assumption) (rk S (nI i)) (inr x 1 9999)) lk_X7_352 rfl (isO_MO _ _ _) rfl (ltS (by assumption)) ?_
  rw [b2i_1 ⟨h1, h2⟩, if_pos h1, if_pos h2]
  refine wa_if_eq 31 dX7_newBattery_18 rfl (fun c18 => absurd c18 (by decide)) (fun c18 => ?_)
  refine wa_aload_n dX7_newBattery_21 rfl ?_
  refine wa_iload_n dX7_newBattery_22 rfl ?_
  refine wa_iconst (x := 2) dX7_newBattery_23 (by decide) ?_
  refine wa_iload_n dX7_newBattery_24 rfl ?_
  refine c_VI dX7_newBattery_25 (mm_becomes (S := th S 0) (w := 2) (by assumption) hm hM1 hi (by omega) (x)) lk_X7_410 rfl (isO_MO _ _ _) rfl (ltS (by assumption)) ?_
  refine wa_goto 32 dX7_newBattery_28 rfl ?_
  exact wa_ireturn dX7_newBattery_32 ⟨Nat.le_refl _, Nat.le_refl _, ⟨_, rfl, rfl⟩, (ri (by rw [em])), rfl, rfl⟩
theorem mm_turn_1 {n : Nat} {S : SS} {T : Int} (hn : 279 ≤ n) (hm : mr S = 268) (hV : VG T (S.1 268)) (hM : RM S) (hT : T < 2147400000) (r x : Int32) (h1 : ¬ (rk S r)) : AM yX7_turn cX7_turn 3 (some .int) [] 2 0 0 [.ref 267, .int r, .int x] n (Hp S) (PI 0 n (th S 1)) := by
  intro has
  change WA RX7 cX7_turn 3 [] _ _ 0 0 0 [some (.ref 267), some (.int r), some (.int x)] [] n _
  have hVr : VG T (row S) := by rw [row_net hm]; exact hV
  refine wa_aload_n dX7_turn_0 rfl ?_
  refine wa_aload_n dX7_turn_1 rfl ?_
  refine wa_iload_n dX7_turn_2 rfl ?_
  refine c_VI dX7_turn_3 (mm_isRoom (by assumption) hVr r) lk_X7_347 rfl (isO_MO _ _ _) rfl (ltS (by assumption)) ?_
  refine wa_iload_n dX7_turn_6 rfl ?_
  refine wa_i2l dX7_turn_7 ?_
  refine wa_lconst (x := 0) dX7_turn_8 (by decide) ?_
  refine wa_ldc2 dX7_turn_9 wv_X7_91 ?_
  refine c_SI dX7_turn_12 (mm_inI (a := x) (b := 0) (c := 100) (by first | rfl | decide) (by first | rfl | decide)) lk_X7_60 rfl ?_
  refine c_VI dX7_turn_15 (mm_passesP (by assumption) (rk S r) (inr x 0 100)) lk_X7_352 rfl (isO_MO _ _ _) rfl (ltS (by assumption)) ?_
  rw [b2i_0 (fun z => h1 z.1), if_neg h1]
  refine wa_if_eq 31 dX7_turn_18 rfl (fun c18 => ?_) (fun c18 => absurd rfl c18)
  refine wa_iconst (x := 0) dX7_turn_31 (by decide) ?_
  exact wa_ireturn dX7_turn_32 ⟨Nat.le_refl _, Nat.le_refl _, ⟨_, rfl, rfl⟩, rfl, rfl, rfl⟩
theorem mm_turn_2 {n : Nat} {S : SS} {T : Int} (hn : 279 ≤ n) (hm : mr S = 268) (hV : VG T (S.1 268)) (hM : RM S) (hT : T < 2147400000) (r x : Int32) (h1 : rk S r) (h2 : ¬ (inr x 0 100)) : AM yX7_turn cX7_turn 3 (some .int) [] 2 0 0 [.ref 267, .int r, .int x] n (Hp S) (PI 0 n (th S 2)) := by
  intro has
  change WA RX7 cX7_turn 3 [] _ _ 0 0 0 [some (.ref 267), some (.int r), some (.int x)] [] n _
  have hVr : VG T (row S) := by rw [row_net hm]; exact hV
  refine wa_aload_n dX7_turn_0 rfl ?_
  refine wa_aload_n dX7_turn_1 rfl ?_
  refine wa_iload_n dX7_turn_2 rfl ?_
  refine c_VI dX7_turn_3 (mm_isRoom (by assumption) hVr r) lk_X7_347 rfl (isO_MO _ _ _) rfl (ltS (by assumption)) ?_
  refine wa_iload_n dX7_turn_6 rfl ?_
  refine wa_i2l dX7_turn_7 ?_
  refine wa_lconst (x := 0) dX7_turn_8 (by decide) ?_
  refine wa_ldc2 dX7_turn_9 wv_X7_91 ?_
  refine c_SI dX7_turn_12 (mm_inI (a := x) (b := 0) (c := 100) (by first | rfl | decide) (by first | rfl | decide)) lk_X7_60 rfl ?_
  refine c_VI dX7_turn_15 (mm_passesP (by assumption) (rk S r) (inr x 0 100)) lk_X7_352 rfl (isO_MO _ _ _) rfl (ltS (by assumption)) ?_
  rw [b2i_0 (fun z => h2 z.2), if_pos h1, if_neg h2]
  refine wa_if_eq 31 dX7_turn_18 rfl (fun c18 => ?_) (fun c18 => absurd rfl c18)
  refine wa_iconst (x := 0) dX7_turn_31 (by decide) ?_
  exact wa_ireturn dX7_turn_32 ⟨Nat.le_refl _, Nat.le_refl _, ⟨_, rfl, rfl⟩, rfl, rfl, rfl⟩
theorem mm_turn_0 {n : Nat} {S : SS} {T : Int} (hn : 279 ≤ n) (hm : mr S = 268) (hV : VG T (S.1 268)) (hM : RM S) (hT : T < 2147400000) {i : Nat} (hi : i < 6) (x : Int32) (h1 : rk S (nI i)) (h2 : inr x 0 100) : AM yX7_turn cX7_turn 3 (some .int) [] 2 0 0 [.ref 267, .int (nI i), .int x] n (Hp S) (PI (of (S.1 268) i 1) n (md (fun g => pt g i (1) (x)) (f_rem (th S 0)))) := by
  intro has
  change WA RX7 cX7_turn 3 [] _ _ 0 0 0 [some (.ref 267), some (.int (nI i)), some (.int x)] [] n _
  have hVr : VG T (row S) := by rw [row_net hm]; exact hV
  have hV1 : VG T (row (th S 0)) := VG_th hVr 0
  have hM1 : RM (th S 0) := RM_th hM 0
  have em : (th S 0).1 268 = S.1 268 := th_n S 0 (by decide)
  have er : row (f_rem (th S 0)) = S.1 268 := (row_rem (S := th S 0) hm).trans em
  have en : (f_rem (th S 0)).1 268 = S.1 268 := (rem_n _ (by decide) (by decide)).trans em
  have hVm : VG T (row (f_rem (th S 0))) := by rw [er]; exact hV
  refine wa_aload_n dX7_turn_0 rfl ?_
  refine wa_aload_n dX7_turn_1 rfl ?_
  refine wa_iload_n dX7_turn_2 rfl ?_
  refine c_VI dX7_turn_3 (mm_isRoom (by assumption) hVr (nI i)) lk_X7_347 rfl (isO_MO _ _ _) rfl (ltS (by assumption)) ?_
  refine wa_iload_n dX7_turn_6 rfl ?_
  refine wa_i2l dX7_turn_7 ?_
  refine wa_lconst (x := 0) dX7_turn_8 (by decide) ?_
  refine wa_ldc2 dX7_turn_9 wv_X7_91 ?_
  refine c_SI dX7_turn_12 (mm_inI (a := x) (b := 0) (c := 100) (by first | rfl | decide) (by first | rfl | decide)) lk_X7_60 rfl ?_
  refine c_VI dX7_turn_15 (mm_passesP (by assumption) (rk S (nI i)) (inr x 0 100)) lk_X7_352 rfl (isO_MO _ _ _) rfl (ltS (by assumption)) ?_
  rw [b2i_1 ⟨h1, h2⟩, if_pos h1, if_pos h2]
  refine wa_if_eq 31 dX7_turn_18 rfl (fun c18 => absurd c18 (by decide)) (fun c18 => ?_)
  refine wa_aload_n dX7_turn_21 rfl ?_
  refine wa_iload_n dX7_turn_22 rfl ?_
  refine wa_iconst (x := 1) dX7_turn_23 (by decide) ?_
  refine wa_iload_n dX7_turn_24 rfl ?_
  refine c_VI dX7_turn_25 (mm_becomes (S := th S 0) (w := 1) (by assumption) hm hM1 hi (by omega) (x)) lk_X7_410 rfl (isO_MO _ _ _) rfl (ltS (by assumption)) ?_
  refine wa_goto 32 dX7_turn_28 rfl ?_
  exact wa_ireturn dX7_turn_32 ⟨Nat.le_refl _, Nat.le_refl _, ⟨_, rfl, rfl⟩, (ri (by rw [em])), rfl, rfl⟩
theorem mm_setWindow_1 {n : Nat} {S : SS} {T : Int} (hn : 279 ≤ n) (hm : mr S = 268) (hV : VG T (S.1 268)) (hM : RM S) (hT : T < 2147400000) (r x : Int32) (h1 : ¬ (rk S r)) : AM yX7_setWindow cX7_setWindow 3 (some .boolean) [] 2 0 0 [.ref 267, .int r, .int x] n (Hp S) (PI 0 n (th S 1)) := by
  intro has
  change WA RX7 cX7_setWindow 3 [] _ _ 0 0 0 [some (.ref 267), some (.int r), some (.int x)] [] n _
  have hVr : VG T (row S) := by rw [row_net hm]; exact hV
  refine wa_aload_n dX7_setWindow_0 rfl ?_
  refine wa_aload_n dX7_setWindow_1 rfl ?_
  refine wa_iload_n dX7_setWindow_2 rfl ?_
  refine c_VI dX7_setWindow_3 (mm_isRoom (by assumption) hVr r) lk_X7_347 rfl (isO_MO _ _ _) rfl (ltS (by assumption)) ?_
  refine c_VI dX7_setWindow_6 (mm_passes1 (by assumption) (rk S r)) lk_X7_155 rfl (isO_MO _ _ _) rfl (ltS (by assumption)) ?_
  rw [b2i_0 (fun z => h1 z), if_neg h1]
  refine wa_if_eq 35 dX7_setWindow_9 rfl (fun c9 => ?_) (fun c9 => absurd rfl c9)
  refine wa_iconst (x := 0) dX7_setWindow_35 (by decide) ?_
  exact wa_ireturn dX7_setWindow_36 ⟨Nat.le_refl _, Nat.le_refl _, ⟨_, rfl, rfl⟩, rfl, rfl, rfl⟩
theorem mm_setWindow_0 {n : Nat} {S : SS} {T : Int} (hn : 279 ≤ n) (hm : mr S = 268) (hV : VG T (S.1 268)) (hM : RM S) (hT : T < 2147400000) {i : Nat} (hi : i < 6) (x : Int32) (h1 : rk S (nI i)) : AM yX7_setWindow cX7_setWindow 3 (some .boolean) [] 2 0 0 [.ref 267, .int (nI i), .int x] n (Hp S) (PI (b2i (of (S.1 268) i 5 = 1)) n (md (fun g => pt g i (5) (if x = 0 then 0 else 1)) (f_rem (th S 0)))) := by
  intro has
  change WA RX7 cX7_setWindow 3 [] _ _ 0 0 0 [some (.ref 267), some (.int (nI i)), some (.int x)] [] n _
  have hVr : VG T (row S) := by rw [row_net hm]; exact hV
  have hV1 : VG T (row (th S 0)) := VG_th hVr 0
  have hM1 : RM (th S 0) := RM_th hM 0
  have em : (th S 0).1 268 = S.1 268 := th_n S 0 (by decide)
  have er : row (f_rem (th S 0)) = S.1 268 := (row_rem (S := th S 0) hm).trans em
  have en : (f_rem (th S 0)).1 268 = S.1 268 := (rem_n _ (by decide) (by decide)).trans em
  have hVm : VG T (row (f_rem (th S 0))) := by rw [er]; exact hV
  refine wa_aload_n dX7_setWindow_0 rfl ?_
  refine wa_aload_n dX7_setWindow_1 rfl ?_
  refine wa_iload_n dX7_setWindow_2 rfl ?_
  refine c_VI dX7_setWindow_3 (mm_isRoom (by assumption) hVr (nI i)) lk_X7_347 rfl (isO_MO _ _ _) rfl (ltS (by assumption)) ?_
  refine c_VI dX7_setWindow_6 (mm_passes1 (by assumption) (rk S (nI i))) lk_X7_155 rfl (isO_MO _ _ _) rfl (ltS (by assumption)) ?_
  rw [b2i_1 h1, if_pos h1]
  refine wa_if_eq 35 dX7_setWindow_9 rfl (fun c9 => absurd c9 (by decide)) (fun c9 => ?_)
  refine wa_aload_n dX7_setWindow_12 rfl ?_
  refine wa_iload_n dX7_setWindow_13 rfl ?_
  refine wa_iconst (x := 5) dX7_setWindow_14 (by decide) ?_
  refine wa_iload_n dX7_setWindow_15 rfl ?_
  refine wa_if_eq 23 dX7_setWindow_16 rfl (fun c16 => ?_) (fun c16 => ?_)
  · refine wa_iconst (x := 0) dX7_setWindow_23 (by decide) ?_
    refine c_VI dX7_setWindow_24 (mm_becomes (S := th S 0) (w := 5) (by assumption) hm hM1 hi (by omega) _) lk_X7_410 rfl (isO_MO _ _ _) rfl (ltS (by assumption)) ?_
    rw [em]
    refine wa_iconst (x := 1) dX7_setWindow_27 (by decide) ?_
    refine wa_icmp_ne 35 dX7_setWindow_28 rfl (fun c28 => ?_) (fun c28 => ?_)
    · refine wa_iconst (x := 0) dX7_setWindow_35 (by decide) ?_
      exact wa_ireturn dX7_setWindow_36 ⟨Nat.le_refl _, Nat.le_refl _, ⟨_, rfl, rfl⟩, ri (by unfold b2i; first | rw [if_pos c28] | rw [if_neg c28]), rfl, congrArg Hp (by first | rw [if_pos c16] | rw [if_neg c16])⟩
    · refine wa_iconst (x := 1) dX7_setWindow_31 (by decide) ?_
      refine wa_goto 36 dX7_setWindow_32 rfl ?_
      exact wa_ireturn dX7_setWindow_36 ⟨Nat.le_refl _, Nat.le_refl _, ⟨_, rfl, rfl⟩, ri (by unfold b2i; first | rw [if_pos c28] | rw [if_neg c28]), rfl, congrArg Hp (by first | rw [if_pos c16] | rw [if_neg c16])⟩
  · refine wa_iconst (x := 1) dX7_setWindow_19 (by decide) ?_
    refine wa_goto 24 dX7_setWindow_20 rfl ?_
    refine c_VI dX7_setWindow_24 (mm_becomes (S := th S 0) (w := 5) (by assumption) hm hM1 hi (by omega) _) lk_X7_410 rfl (isO_MO _ _ _) rfl (ltS (by assumption)) ?_
    rw [em]
    refine wa_iconst (x := 1) dX7_setWindow_27 (by decide) ?_
    refine wa_icmp_ne 35 dX7_setWindow_28 rfl (fun c28 => ?_) (fun c28 => ?_)
    · refine wa_iconst (x := 0) dX7_setWindow_35 (by decide) ?_
      exact wa_ireturn dX7_setWindow_36 ⟨Nat.le_refl _, Nat.le_refl _, ⟨_, rfl, rfl⟩, ri (by unfold b2i; first | rw [if_pos c28] | rw [if_neg c28]), rfl, congrArg Hp (by first | rw [if_pos c16] | rw [if_neg c16])⟩
    · refine wa_iconst (x := 1) dX7_setWindow_31 (by decide) ?_
      refine wa_goto 36 dX7_setWindow_32 rfl ?_
      exact wa_ireturn dX7_setWindow_36 ⟨Nat.le_refl _, Nat.le_refl _, ⟨_, rfl, rfl⟩, ri (by unfold b2i; first | rw [if_pos c28] | rw [if_neg c28]), rfl, congrArg Hp (by first | rw [if_pos c16] | rw [if_neg c16])⟩
theorem mm_setPresent_1 {n : Nat} {S : SS} {T : Int} (hn : 279 ≤ n) (hm : mr S = 268) (hV : VG T (S.1 268)) (hM : RM S) (hT : T < 2147400000) (r x : Int32) (h1 : ¬ (rk S r)) : AM yX7_setPresent cX7_setPresent 4 (some .int) [] 4 0 0 [.ref 267, .int r, .int x] n (Hp S) (PI 0 n (th S 1)) := by
  intro has
  change WA RX7 cX7_setPresent 4 [] _ _ 0 0 0 [some (.ref 267), some (.int r), some (.int x), none] [] n _
  have hVr : VG T (row S) := by rw [row_net hm]; exact hV
  refine wa_aload_n dX7_setPresent_0 rfl ?_
  refine wa_aload_n dX7_setPresent_1 rfl ?_
  refine wa_iload_n dX7_setPresent_2 rfl ?_
  refine c_VI dX7_setPresent_3 (mm_isRoom (by assumption) hVr r) lk_X7_347 rfl (isO_MO _ _ _) rfl (ltS (by assumption)) ?_
  refine c_VI dX7_setPresent_6 (mm_passes1 (by assumption) (rk S r)) lk_X7_155 rfl (isO_MO _ _ _) rfl (ltS (by assumption)) ?_
  rw [b2i_0 (fun z => h1 z), if_neg h1]
  refine wa_if_ne 14 dX7_setPresent_9 rfl (fun c9 => absurd rfl c9) (fun c9 => ?_)
  refine wa_iconst (x := 0) dX7_setPresent_12 (by decide) ?_
  exact wa_ireturn dX7_setPresent_13 ⟨Nat.le_refl _, Nat.le_refl _, ⟨_, rfl, rfl⟩, rfl, rfl, rfl⟩
theorem mm_setPresent_0 {n : Nat} {S : SS} {T : Int} (hn : 279 ≤ n) (hm : mr S = 268) (hV : VG T (S.1 268)) (hM : RM S) (hT : T < 2147400000) {i : Nat} (hi : i < 6) (x : Int32) (h1 : rk S (nI i)) : AM yX7_setPresent cX7_setPresent 4 (some .int) [] 4 0 0 [.ref 267, .int (nI i), .int x] n (Hp S) (PI (tgt (pt (S.1 268) i 6 (if x = 0 then 0 else 1)) i) n (md (fun g => pt g i (6) (if x = 0 then 0 else 1)) (f_rem (th S 0)))) := by
  intro has
  change WA RX7 cX7_setPresent 4 [] _ _ 0 0 0 [some (.ref 267), some (.int (nI i)), some (.int x), none] [] n _
  have hVr : VG T (row S) := by rw [row_net hm]; exact hV
  have hV1 : VG T (row (th S 0)) := VG_th hVr 0
  have hM1 : RM (th S 0) := RM_th hM 0
  have em : (th S 0).1 268 = S.1 268 := th_n S 0 (by decide)
  have er : row (f_rem (th S 0)) = S.1 268 := (row_rem (S := th S 0) hm).trans em
  have en : (f_rem (th S 0)).1 268 = S.1 268 := (rem_n _ (by decide) (by decide)).trans em
  have hVm : VG T (row (f_rem (th S 0))) := by rw [er]; exact hV
  have hV3 (w : Nat) (y : Int32) (hw : w < 18) : VG T (row (md (fun g => pt g i w y) (f_rem (th S 0)))) := by rw [md_row, er]; exact VG_kp hV (kp_pt _ i _ hw)
  refine wa_aload_n dX7_setPresent_0 rfl ?_
  refine wa_aload_n dX7_setPresent_1 rfl ?_
  refine wa_iload_n dX7_setPresent_2 rfl ?_
  refine c_VI dX7_setPresent_3 (mm_isRoom (by assumption) hVr (nI i)) lk_X7_347 rfl (isO_MO _ _ _) rfl (ltS (by assumption)) ?_
  refine c_VI dX7_setPresent_6 (mm_passes1 (by assumption) (rk S (nI i))) lk_X7_155 rfl (isO_MO _ _ _) rfl (ltS (by assumption)) ?_
  rw [b2i_1 h1, if_pos h1]
  refine wa_if_ne 14 dX7_setPresent_9 rfl (fun c9 => ?_) (fun c9 => absurd c9 (by decide))
  refine wa_aload_n dX7_setPresent_14 rfl ?_
  refine wa_iload_n dX7_setPresent_15 rfl ?_
  refine wa_bipush (x := 6) dX7_setPresent_16 (by decide) ?_
  refine wa_iload_n dX7_setPresent_18 rfl ?_
  refine wa_if_eq 26 dX7_setPresent_19 rfl (fun c19 => ?_) (fun c19 => ?_)
  · refine wa_iconst (x := 0) dX7_setPresent_26 (by decide) ?_
    refine c_VI dX7_setPresent_27 (mm_becomes (S := th S 0) (w := 6) (by assumption) hm hM1 hi (by omega) _) lk_X7_410 rfl (isO_MO _ _ _) rfl (ltS (by assumption)) ?_
    refine wa_istore_n dX7_setPresent_30 rfl ?_
    refine wa_aload_n dX7_setPresent_31 rfl ?_
    refine wa_iload_n dX7_setPresent_32 rfl ?_
    refine c_VI dX7_setPresent_33 (mt_targetOf (by assumption) (by assumption) (hV3 6 _ (by decide))) lk_X7_78 rfl (isO_MO _ _ _) rfl (ltS (by assumption)) ?_
    rw [md_row, er]
    exact wa_ireturn dX7_setPresent_36 ⟨Nat.le_refl _, Nat.le_refl _, ⟨_, rfl, rfl⟩, ri (by first | rw [if_pos c19] | rw [if_neg c19]), rfl, congrArg Hp (by first | rw [if_pos c19] | rw [if_neg c19])⟩
  · refine wa_iconst (x := 1) dX7_setPresent_22 (by decide) ?_
    refine wa_goto 27 dX7_setPresent_23 rfl ?_
    refine c_VI dX7_setPresent_27 (mm_becomes (S := th S 0) (w := 6) (by assumption) hm hM1 hi (by omega) _) lk_X7_410 rfl (isO_MO _ _ _) rfl (ltS (by assumption)) ?_
    refine wa_istore_n dX7_setPresent_30 rfl ?_
    refine wa_aload_n dX7_setPresent_31 rfl ?_
    refine wa_iload_n dX7_setPresent_32 rfl ?_
    refine c_VI dX7_setPresent_33 (mt_targetOf (by assumption) (by assumption) (hV3 6 _ (by decide))) lk_X7_78 rfl (isO_MO _ _ _) rfl (ltS (by assumption)) ?_
    rw [md_row, er]
    exact wa_ireturn dX7_setPresent_36 ⟨Nat.le_refl _, Nat.le_refl _, ⟨_, rfl, rfl⟩, ri (by first | rw [if_pos c19] | rw [if_neg c19]), rfl, congrArg Hp (by first | rw [if_pos c19] | rw [if_neg c19])⟩
theorem mm_setProgram_1 {n : Nat} {S : SS} {T : Int} (hn : 279 ≤ n) (hm : mr S = 268) (hV : VG T (S.1 268)) (hM : RM S) (hT : T < 2147400000) (r t x : Int32) (h1 : ¬ rk S r) : AM yX7_setProgram cX7_setProgram 5 (some .int) [] 3 0 0 [.ref 267, .int r, .int t, .int x] n (Hp S) (PI 0 n (th S 1)) := by
  intro has
  change WA RX7 cX7_setProgram 5 [] _ _ 0 0 0 [some (.ref 267), some (.int r), some (.int t), some (.int x), none] [] n _
  have hVr : VG T (row S) := by rw [row_net hm]; exact hV
  refine wa_aload_n dX7_setProgram_0 rfl ?_
  refine wa_aload_n dX7_setProgram_1 rfl ?_
  refine wa_iload_n dX7_setProgram_2 rfl ?_
  refine c_VI dX7_setProgram_3 (mm_isRoom (by assumption) hVr r) lk_X7_347 rfl (isO_MO _ _ _) rfl (ltS (by assumption)) ?_
  refine wa_iload_n dX7_setProgram_6 rfl ?_
  refine c_SI dX7_setProgram_7 (mm_isTick _) lk_X7_363 rfl ?_
  refine wa_if_eq 24 dX7_setProgram_10 rfl (fun c10 => ?_) (fun c10 => ?_)
  · refine wa_iconst (x := 0) dX7_setProgram_24 (by decide) ?_
    refine c_VI dX7_setProgram_25 (mm_passes2 (by assumption) _ _) lk_X7_352 rfl (isO_MO _ _ _) rfl (ltS (by assumption)) ?_
    rw [p3_f1 h1, b2i_0 (by decide)]
    refine wa_if_ne 33 dX7_setProgram_28 rfl (fun c28 => absurd rfl c28) (fun c28 => ?_)
    refine wa_iconst (x := 0) dX7_setProgram_31 (by decide) ?_
    exact wa_ireturn dX7_setProgram_32 ⟨Nat.le_refl _, Nat.le_refl _, ⟨_, rfl, rfl⟩, rfl, rfl, rfl⟩
  · refine wa_iload_n dX7_setProgram_13 rfl ?_
    refine c_SI dX7_setProgram_14 (mm_isTarget _) lk_X7_407 rfl ?_
    refine wa_if_eq 24 dX7_setProgram_17 rfl (fun c17 => ?_) (fun c17 => ?_)
    · refine wa_iconst (x := 0) dX7_setProgram_24 (by decide) ?_
      refine c_VI dX7_setProgram_25 (mm_passes2 (by assumption) _ _) lk_X7_352 rfl (isO_MO _ _ _) rfl (ltS (by assumption)) ?_
      rw [p3_f1 h1, b2i_0 (by decide)]
      refine wa_if_ne 33 dX7_setProgram_28 rfl (fun c28 => absurd rfl c28) (fun c28 => ?_)
      refine wa_iconst (x := 0) dX7_setProgram_31 (by decide) ?_
      exact wa_ireturn dX7_setProgram_32 ⟨Nat.le_refl _, Nat.le_refl _, ⟨_, rfl, rfl⟩, rfl, rfl, rfl⟩
    · refine wa_iconst (x := 1) dX7_setProgram_20 (by decide) ?_
      refine wa_goto 25 dX7_setProgram_21 rfl ?_
      refine c_VI dX7_setProgram_25 (mm_passes2 (by assumption) _ _) lk_X7_352 rfl (isO_MO _ _ _) rfl (ltS (by assumption)) ?_
      rw [p3_f1 h1, b2i_0 (by decide)]
      refine wa_if_ne 33 dX7_setProgram_28 rfl (fun c28 => absurd rfl c28) (fun c28 => ?_)
      refine wa_iconst (x := 0) dX7_setProgram_31 (by decide) ?_
      exact wa_ireturn dX7_setProgram_32 ⟨Nat.le_refl _, Nat.le_refl _, ⟨_, rfl, rfl⟩, rfl, rfl, rfl⟩
theorem mm_setProgram_2 {n : Nat} {S : SS} {T : Int} (hn : 279 ≤ n) (hm : mr S = 268) (hV : VG T (S.1 268)) (hM : RM S) (hT : T < 2147400000) (r t x : Int32) (h1 : rk S r) (h2 : ¬ (inr t 0 47 ∧ inr x 50 300)) : AM yX7_setProgram cX7_setProgram 5 (some .int) [] 3 0 0 [.ref 267, .int r, .int t, .int x] n (Hp S) (PI 0 n (th S 2)) := by
  intro has
  change WA RX7 cX7_setProgram 5 [] _ _ 0 0 0 [some (.ref 267), some (.int r), some (.int t), some (.int x), none] [] n _
  have hVr : VG T (row S) := by rw [row_net hm]; exact hV
  refine wa_aload_n dX7_setProgram_0 rfl ?_
  refine wa_aload_n dX7_setProgram_1 rfl ?_
  refine wa_iload_n dX7_setProgram_2 rfl ?_
  refine c_VI dX7_setProgram_3 (mm_isRoom (by assumption) hVr r) lk_X7_347 rfl (isO_MO _ _ _) rfl (ltS (by assumption)) ?_
  refine wa_iload_n dX7_setProgram_6 rfl ?_
  refine c_SI dX7_setProgram_7 (mm_isTick _) lk_X7_363 rfl ?_
  refine wa_if_eq 24 dX7_setProgram_10 rfl (fun c10 => ?_) (fun c10 => ?_)
  · refine wa_iconst (x := 0) dX7_setProgram_24 (by decide) ?_
    refine c_VI dX7_setProgram_25 (mm_passes2 (by assumption) _ _) lk_X7_352 rfl (isO_MO _ _ _) rfl (ltS (by assumption)) ?_
    rw [p3_f2 h1, b2i_0 (by decide)]
    refine wa_if_ne 33 dX7_setProgram_28 rfl (fun c28 => absurd rfl c28) (fun c28 => ?_)
    refine wa_iconst (x := 0) dX7_setProgram_31 (by decide) ?_
    exact wa_ireturn dX7_setProgram_32 ⟨Nat.le_refl _, Nat.le_refl _, ⟨_, rfl, rfl⟩, rfl, rfl, rfl⟩
  · refine wa_iload_n dX7_setProgram_13 rfl ?_
    refine c_SI dX7_setProgram_14 (mm_isTarget _) lk_X7_407 rfl ?_
    refine wa_if_eq 24 dX7_setProgram_17 rfl (fun c17 => ?_) (fun c17 => ?_)
    · refine wa_iconst (x := 0) dX7_setProgram_24 (by decide) ?_
      refine c_VI dX7_setProgram_25 (mm_passes2 (by assumption) _ _) lk_X7_352 rfl (isO_MO _ _ _) rfl (ltS (by assumption)) ?_
      rw [p3_f2 h1, b2i_0 (by decide)]
      refine wa_if_ne 33 dX7_setProgram_28 rfl (fun c28 => absurd rfl c28) (fun c28 => ?_)
      refine wa_iconst (x := 0) dX7_setProgram_31 (by decide) ?_
      exact wa_ireturn dX7_setProgram_32 ⟨Nat.le_refl _, Nat.le_refl _, ⟨_, rfl, rfl⟩, rfl, rfl, rfl⟩
    · exact absurd ⟨b2i_t c10, b2i_t c17⟩ h2
theorem mm_setProgram_0 {n : Nat} {S : SS} {T : Int} (hn : 279 ≤ n) (hm : mr S = 268) (hV : VG T (S.1 268)) (hM : RM S) (hT : T < 2147400000) {i : Nat} (hi : i < 6) {w : Nat} (hw : w < 48) (x : Int32) (h1 : rk S (nI i)) (h2 : inr (nI w) 0 47) (h3 : inr x 50 300) : AM yX7_setProgram cX7_setProgram 5 (some .int) [] 3 0 0 [.ref 267, .int (nI i), .int (nI w), .int x] n (Hp S) (PI (if of (S.1 268) i (18 + w) = 0 then -1 else of (S.1 268) i (18 + w)) n (md (fun g => pt g i (18 + w) (x)) (f_rem (th S 0)))) := by
  intro has
  change WA RX7 cX7_setProgram 5 [] _ _ 0 0 0 [some (.ref 267), some (.int (nI i)), some (.int (nI w)), some (.int x), none] [] n _
  have hVr : VG T (row S) := by rw [row_net hm]; exact hV
  have hV1 : VG T (row (th S 0)) := VG_th hVr 0
  have hM1 : RM (th S 0) := RM_th hM 0
  have em : (th S 0).1 268 = S.1 268 := th_n S 0 (by decide)
  have er : row (f_rem (th S 0)) = S.1 268 := (row_rem (S := th S 0) hm).trans em
  have en : (f_rem (th S 0)).1 268 = S.1 268 := (rem_n _ (by decide) (by decide)).trans em
  have hVm : VG T (row (f_rem (th S 0))) := by rw [er]; exact hV
  refine wa_aload_n dX7_setProgram_0 rfl ?_
  refine wa_aload_n dX7_setProgram_1 rfl ?_
  refine wa_iload_n dX7_setProgram_2 rfl ?_
  refine c_VI dX7_setProgram_3 (mm_isRoom (by assumption) hVr (nI i)) lk_X7_347 rfl (isO_MO _ _ _) rfl (ltS (by assumption)) ?_
  refine wa_iload_n dX7_setProgram_6 rfl ?_
  refine c_SI dX7_setProgram_7 (mm_isTick _) lk_X7_363 rfl ?_
  rw [b2i_1 h2]
  refine wa_if_eq 24 dX7_setProgram_10 rfl (fun c10 => absurd c10 (by decide)) (fun c10 => ?_)
  refine wa_iload_n dX7_setProgram_13 rfl ?_
  refine c_SI dX7_setProgram_14 (mm_isTarget _) lk_X7_407 rfl ?_
  rw [b2i_1 h3]
  refine wa_if_eq 24 dX7_setProgram_17 rfl (fun c17 => absurd c17 (by decide)) (fun c17 => ?_)
  refine wa_iconst (x := 1) dX7_setProgram_20 (by decide) ?_
  refine wa_goto 25 dX7_setProgram_21 rfl ?_
  refine c_VI dX7_setProgram_25 (mm_passes2 (by assumption) _ _) lk_X7_352 rfl (isO_MO _ _ _) rfl (ltS (by assumption)) ?_
  rw [p3_f0 h1, b2i_1 rfl]
  refine wa_if_ne 33 dX7_setProgram_28 rfl (fun c28 => ?_) (fun c28 => absurd c28 (by decide))
  refine wa_aload_n dX7_setProgram_33 rfl ?_
  refine wa_iload_n dX7_setProgram_34 rfl ?_
  refine wa_bipush (x := 18) dX7_setProgram_35 (by decide) ?_
  refine wa_iload_n dX7_setProgram_37 rfl ?_
  refine wa_iadd dX7_setProgram_38 ?_
  rw [show (18 : Int32) + nI w = nI (18 + w) from nI_add 18 w]
  refine wa_iload_n dX7_setProgram_39 rfl ?_
  refine c_VI dX7_setProgram_40 (mm_becomes (S := th S 0) (w := 18 + w) (by assumption) hm hM1 hi (by omega) x) lk_X7_410 rfl (isO_MO _ _ _) rfl (ltS (by assumption)) ?_
  rw [em]
  refine wa_istore dX7_setProgram_43 rfl ?_
  refine wa_iload dX7_setProgram_45 rfl ?_
  refine wa_if_ne 54 dX7_setProgram_47 rfl (fun c47 => ?_) (fun c47 => ?_)
  · refine wa_iload dX7_setProgram_54 rfl ?_
    exact wa_ireturn dX7_setProgram_56 ⟨Nat.le_refl _, Nat.le_refl _, ⟨_, rfl, rfl⟩, ri (by first | rw [if_pos c47] | rw [if_neg c47]), rfl, rfl⟩
  · refine wa_iconst (x := (-1)) dX7_setProgram_50 (by decide) ?_
    refine wa_goto 56 dX7_setProgram_51 rfl ?_
    exact wa_ireturn dX7_setProgram_56 ⟨Nat.le_refl _, Nat.le_refl _, ⟨_, rfl, rfl⟩, ri (by first | rw [if_pos c47] | rw [if_neg c47]), rfl, rfl⟩
theorem mm_override_1 {n : Nat} {S : SS} {T : Int} (hn : 279 ≤ n) (hm : mr S = 268) (hV : VG T (S.1 268)) (hM : RM S) (hT : T < 2147400000) (r x y : Int32) (h1 : ¬ rk S r) : AM yX7_override cX7_override 5 (some .int) [] 4 0 0 [.ref 267, .int r, .int x, .int y] n (Hp S) (PI 0 n (th S 1)) := by
  intro has
  change WA RX7 cX7_override 5 [] _ _ 0 0 0 [some (.ref 267), some (.int r), some (.int x), some (.int y), none] [] n _
  have hVr : VG T (row S) := by rw [row_net hm]; exact hV
  refine wa_aload_n dX7_override_0 rfl ?_
  refine wa_aload_n dX7_override_1 rfl ?_
  refine wa_iload_n dX7_override_2 rfl ?_
  refine c_VI dX7_override_3 (mm_isRoom (by assumption) hVr r) lk_X7_347 rfl (isO_MO _ _ _) rfl (ltS (by assumption)) ?_
  refine wa_iload_n dX7_override_6 rfl ?_
  refine c_SI dX7_override_7 (mm_isTarget _) lk_X7_407 rfl ?_
  refine wa_if_eq 24 dX7_override_10 rfl (fun c10 => ?_) (fun c10 => ?_)
  · refine wa_iconst (x := 0) dX7_override_24 (by decide) ?_
    refine c_VI dX7_override_25 (mm_passes2 (by assumption) _ _) lk_X7_352 rfl (isO_MO _ _ _) rfl (ltS (by assumption)) ?_
    rw [p3_f1 h1, b2i_0 (by decide)]
    refine wa_if_ne 33 dX7_override_28 rfl (fun c28 => absurd rfl c28) (fun c28 => ?_)
    refine wa_iconst (x := 0) dX7_override_31 (by decide) ?_
    exact wa_ireturn dX7_override_32 ⟨Nat.le_refl _, Nat.le_refl _, ⟨_, rfl, rfl⟩, rfl, rfl, rfl⟩
  · refine wa_iload_n dX7_override_13 rfl ?_
    refine c_SI dX7_override_14 (mm_areTicks _) lk_X7_370 rfl ?_
    refine wa_if_eq 24 dX7_override_17 rfl (fun c17 => ?_) (fun c17 => ?_)
    · refine wa_iconst (x := 0) dX7_override_24 (by decide) ?_
      refine c_VI dX7_override_25 (mm_passes2 (by assumption) _ _) lk_X7_352 rfl (isO_MO _ _ _) rfl (ltS (by assumption)) ?_
      rw [p3_f1 h1, b2i_0 (by decide)]
      refine wa_if_ne 33 dX7_override_28 rfl (fun c28 => absurd rfl c28) (fun c28 => ?_)
      refine wa_iconst (x := 0) dX7_override_31 (by decide) ?_
      exact wa_ireturn dX7_override_32 ⟨Nat.le_refl _, Nat.le_refl _, ⟨_, rfl, rfl⟩, rfl, rfl, rfl⟩
    · refine wa_iconst (x := 1) dX7_override_20 (by decide) ?_
      refine wa_goto 25 dX7_override_21 rfl ?_
      refine c_VI dX7_override_25 (mm_passes2 (by assumption) _ _) lk_X7_352 rfl (isO_MO _ _ _) rfl (ltS (by assumption)) ?_
      rw [p3_f1 h1, b2i_0 (by decide)]
      refine wa_if_ne 33 dX7_override_28 rfl (fun c28 => absurd rfl c28) (fun c28 => ?_)
      refine wa_iconst (x := 0) dX7_override_31 (by decide) ?_
      exact wa_ireturn dX7_override_32 ⟨Nat.le_refl _, Nat.le_refl _, ⟨_, rfl, rfl⟩, rfl, rfl, rfl⟩
theorem mm_override_2 {n : Nat} {S : SS} {T : Int} (hn : 279 ≤ n) (hm : mr S = 268) (hV : VG T (S.1 268)) (hM : RM S) (hT : T < 2147400000) (r x y : Int32) (h1 : rk S r) (h2 : ¬ (inr x 50 300 ∧ inr y 0 500)) : AM yX7_override cX7_override 5 (some .int) [] 4 0 0 [.ref 267, .int r, .int x, .int y] n (Hp S) (PI 0 n (th S 2)) := by
  intro has
  change WA RX7 cX7_override 5 [] _ _ 0 0 0 [some (.ref 267), some (.int r), some (.int x), some (.int y), none] [] n _
  have hVr : VG T (row S) := by rw [row_net hm]; exact hV
  refine wa_aload_n dX7_override_0 rfl ?_
  refine wa_aload_n dX7_override_1 rfl ?_
  refine wa_iload_n dX7_override_2 rfl ?_
  refine c_VI dX7_override_3 (mm_isRoom (by assumption) hVr r) lk_X7_347 rfl (isO_MO _ _ _) rfl (ltS (by assumption)) ?_
  refine wa_iload_n dX7_override_6 rfl ?_
  refine c_SI dX7_override_7 (mm_isTarget _) lk_X7_407 rfl ?_
  refine wa_if_eq 24 dX7_override_10 rfl (fun c10 => ?_) (fun c10 => ?_)
  · refine wa_iconst (x := 0) dX7_override_24 (by decide) ?_
    refine c_VI dX7_override_25 (mm_passes2 (by assumption) _ _) lk_X7_352 rfl (isO_MO _ _ _) rfl (ltS (by assumption)) ?_
    rw [p3_f2 h1, b2i_0 (by decide)]
    refine wa_if_ne 33 dX7_override_28 rfl (fun c28 => absurd rfl c28) (fun c28 => ?_)
    refine wa_iconst (x := 0) dX7_override_31 (by decide) ?_
    exact wa_ireturn dX7_override_32 ⟨Nat.le_refl _, Nat.le_refl _, ⟨_, rfl, rfl⟩, rfl, rfl, rfl⟩
  · refine wa_iload_n dX7_override_13 rfl ?_
    refine c_SI dX7_override_14 (mm_areTicks _) lk_X7_370 rfl ?_
    refine wa_if_eq 24 dX7_override_17 rfl (fun c17 => ?_) (fun c17 => ?_)
    · refine wa_iconst (x := 0) dX7_override_24 (by decide) ?_
      refine c_VI dX7_override_25 (mm_passes2 (by assumption) _ _) lk_X7_352 rfl (isO_MO _ _ _) rfl (ltS (by assumption)) ?_
      rw [p3_f2 h1, b2i_0 (by decide)]
      refine wa_if_ne 33 dX7_override_28 rfl (fun c28 => absurd rfl c28) (fun c28 => ?_)
      refine wa_iconst (x := 0) dX7_override_31 (by decide) ?_
      exact wa_ireturn dX7_override_32 ⟨Nat.le_refl _, Nat.le_refl _, ⟨_, rfl, rfl⟩, rfl, rfl, rfl⟩
    · exact absurd ⟨b2i_t c10, b2i_t c17⟩ h2
theorem mm_override_0 {n : Nat} {S : SS} {T : Int} (hn : 279 ≤ n) (hm : mr S = 268) (hV : VG T (S.1 268)) (hM : RM S) (hT : T < 2147400000) {i : Nat} (hi : i < 6) (x y : Int32) (h1 : rk S (nI i)) (h2 : inr x 50 300) (h3 : inr y 0 500) : AM yX7_override cX7_override 5 (some .int) [] 4 0 0 [.ref 267, .int (nI i), .int x, .int y] n (Hp S) (PI (tgt (pt (pt (S.1 268) i 8 x) i 9 y) i) n (md (fun g => pt (pt g i 8 x) i 9 y) (f_rem (th S 0)))) := by
  intro has
  change WA RX7 cX7_override 5 [] _ _ 0 0 0 [some (.ref 267), some (.int (nI i)), some (.int x), some (.int y), none] [] n _
  have hVr : VG T (row S) := by rw [row_net hm]; exact hV
  have hV1 : VG T (row (th S 0)) := VG_th hVr 0
  have hM1 : RM (th S 0) := RM_th hM 0
  have em : (th S 0).1 268 = S.1 268 := th_n S 0 (by decide)
  have er : row (f_rem (th S 0)) = S.1 268 := (row_rem (S := th S 0) hm).trans em
  have en : (f_rem (th S 0)).1 268 = S.1 268 := (rem_n _ (by decide) (by decide)).trans em
  have hVm : VG T (row (f_rem (th S 0))) := by rw [er]; exact hV
  have hV3 : VG T (row (md (fun g => pt (pt g i 8 x) i 9 y) (f_rem (th S 0)))) := by rw [md_row, er]; exact VG_kp hV ((kp_pt _ i _ (by decide)).tr (kp_pt _ i _ (by decide)))
  refine wa_aload_n dX7_override_0 rfl ?_
  refine wa_aload_n dX7_override_1 rfl ?_
  refine wa_iload_n dX7_override_2 rfl ?_
  refine c_VI dX7_override_3 (mm_isRoom (by assumption) hVr (nI i)) lk_X7_347 rfl (isO_MO _ _ _) rfl (ltS (by assumption)) ?_
  refine wa_iload_n dX7_override_6 rfl ?_
  refine c_SI dX7_override_7 (mm_isTarget _) lk_X7_407 rfl ?_
  rw [b2i_1 h2]
  refine wa_if_eq 24 dX7_override_10 rfl (fun c10 => absurd c10 (by decide)) (fun c10 => ?_)
  refine wa_iload_n dX7_override_13 rfl ?_
  refine c_SI dX7_override_14 (mm_areTicks _) lk_X7_370 rfl ?_
  rw [b2i_1 h3]
  refine wa_if_eq 24 dX7_override_17 rfl (fun c17 => absurd c17 (by decide)) (fun c17 => ?_)
  refine wa_iconst (x := 1) dX7_override_20 (by decide) ?_
  refine wa_goto 25 dX7_override_21 rfl ?_
  refine c_VI dX7_override_25 (mm_passes2 (by assumption) _ _) lk_X7_352 rfl (isO_MO _ _ _) rfl (ltS (by assumption)) ?_
  rw [p3_f0 h1, b2i_1 rfl]
  refine wa_if_ne 33 dX7_override_28 rfl (fun c28 => ?_) (fun c28 => absurd c28 (by decide))
  refine wa_aload_n dX7_override_33 rfl ?_
  refine wa_iload_n dX7_override_34 rfl ?_
  refine wa_bipush (x := 8) dX7_override_35 (by decide) ?_
  refine wa_iload_n dX7_override_37 rfl ?_
  refine c_VI dX7_override_38 (mm_becomes (S := th S 0) (w := 8) (by assumption) hm hM1 hi (by omega) (x)) lk_X7_410 rfl (isO_MO _ _ _) rfl (ltS (by assumption)) ?_
  refine wa_istore dX7_override_41 rfl ?_
  refine wa_aload_n dX7_override_43 rfl ?_
  refine wa_iload_n dX7_override_44 rfl ?_
  refine wa_bipush (x := 9) dX7_override_45 (by decide) ?_
  refine wa_iload_n dX7_override_47 rfl ?_
  refine c_VV dX7_override_48 (mm_put2 (w := 9) (by assumption) hi (by decide) y) lk_X7_105 rfl (isO_MO _ _ _) rfl (ltS (by assumption)) ?_
  rw [md_md]
  refine wa_aload_n dX7_override_51 rfl ?_
  refine wa_iload_n dX7_override_52 rfl ?_
  refine c_VI dX7_override_53 (mt_targetOf (by assumption) hi hV3) lk_X7_78 rfl (isO_MO _ _ _) rfl (ltS (by assumption)) ?_
  rw [md_row, er]
  exact wa_ireturn dX7_override_56 ⟨Nat.le_refl _, Nat.le_refl _, ⟨_, rfl, rfl⟩, rfl, rfl, rfl⟩
theorem mm_setOutside_1 {n : Nat} {S : SS} {T : Int} (hn : 279 ≤ n) (hm : mr S = 268) (hV : VG T (S.1 268)) (hM : RM S) (hT : T < 2147400000) (x : Int32) (h1 : ¬ (inr x (-300) 400)) : AM yX7_setOutside cX7_setOutside 3 (some .int) [] 2 0 0 [.ref 267, .int x] n (Hp S) (PI 0 n (th S 1)) := by
  intro has
  change WA RX7 cX7_setOutside 3 [] _ _ 0 0 0 [some (.ref 267), some (.int x), none] [] n _
  have hVr : VG T (row S) := by rw [row_net hm]; exact hV
  refine wa_aload_n dX7_setOutside_0 rfl ?_
  refine wa_iload_n dX7_setOutside_1 rfl ?_
  refine c_SI dX7_setOutside_2 (mm_isOutside _) lk_X7_395 rfl ?_
  refine c_VI dX7_setOutside_5 (mm_passes1 (by assumption) (inr x (-300) 400)) lk_X7_155 rfl (isO_MO _ _ _) rfl (ltS (by assumption)) ?_
  rw [b2i_0 (fun z => h1 z), if_neg h1]
  refine wa_if_ne 13 dX7_setOutside_8 rfl (fun c8 => absurd rfl c8) (fun c8 => ?_)
  refine wa_iconst (x := 0) dX7_setOutside_11 (by decide) ?_
  exact wa_ireturn dX7_setOutside_12 ⟨Nat.le_refl _, Nat.le_refl _, ⟨_, rfl, rfl⟩, rfl, rfl, rfl⟩
theorem mm_setOutside_0 {n : Nat} {S : SS} {T : Int} (hn : 279 ≤ n) (hm : mr S = 268) (hV : VG T (S.1 268)) (hM : RM S) (hT : T < 2147400000) (x : Int32) (h1 : inr x (-300) 400) : AM yX7_setOutside cX7_setOutside 3 (some .int) [] 2 0 0 [.ref 267, .int x] n (Hp S) (PI (S.1 268 2) n (su (f_rem (th S 0)) 268 (upd (S.1 268) 2 x))) := by
  intro has
  change WA RX7 cX7_setOutside 3 [] _ _ 0 0 0 [some (.ref 267), some (.int x), none] [] n _
  have hVr : VG T (row S) := by rw [row_net hm]; exact hV
  have hV1 : VG T (row (th S 0)) := VG_th hVr 0
  have hM1 : RM (th S 0) := RM_th hM 0
  have em : (th S 0).1 268 = S.1 268 := th_n S 0 (by decide)
  have er : row (f_rem (th S 0)) = S.1 268 := (row_rem (S := th S 0) hm).trans em
  have en : (f_rem (th S 0)).1 268 = S.1 268 := (rem_n _ (by decide) (by decide)).trans em
  have hVm : VG T (row (f_rem (th S 0))) := by rw [er]; exact hV
  refine wa_aload_n dX7_setOutside_0 rfl ?_
  refine wa_iload_n dX7_setOutside_1 rfl ?_
  refine c_SI dX7_setOutside_2 (mm_isOutside _) lk_X7_395 rfl ?_
  refine c_VI dX7_setOutside_5 (mm_passes1 (by assumption) (inr x (-300) 400)) lk_X7_155 rfl (isO_MO _ _ _) rfl (ltS (by assumption)) ?_
  rw [b2i_1 h1, if_pos h1]
  refine wa_if_ne 13 dX7_setOutside_8 rfl (fun c8 => ?_) (fun c8 => absurd c8 (by decide))
  refine wa_aload_n dX7_setOutside_13 rfl ?_
  refine c_VV dX7_setOutside_14 (mm_remember (by assumption) (by assumption)) lk_X7_340 rfl (isO_MO _ _ _) rfl (ltS (by assumption)) ?_
  refine wa_aload_n dX7_setOutside_17 rfl ?_
  refine g_MO (by assumption) 1 dX7_setOutside_18 fl_X7_17 (by decide) rfl ?_
  refine wa_iconst (x := 2) dX7_setOutside_21 (by decide) ?_
  refine s_iald (j := 2) isA_net dX7_setOutside_22 (ltS (by assumption)) rfl (by decide) ?_
  refine wa_istore_n dX7_setOutside_23 rfl ?_
  refine wa_aload_n dX7_setOutside_24 rfl ?_
  refine g_MO (by assumption) 1 dX7_setOutside_25 fl_X7_17 (by decide) rfl ?_
  refine wa_iconst (x := 2) dX7_setOutside_28 (by decide) ?_
  refine wa_iload_n dX7_setOutside_29 rfl ?_
  refine s_iast (j := 2) isA_net dX7_setOutside_30 (ltS (by assumption)) rfl (by decide) ?_
  show WA _ _ _ _ _ _ _ _ _ _ _ _ (Hp (su (f_rem (th S 0)) 268 (upd ((f_rem (th S 0)).1 268) 2 x)))
  rw [en]
  refine wa_iload_n dX7_setOutside_31 rfl ?_
  exact wa_ireturn dX7_setOutside_32 ⟨Nat.le_refl _, Nat.le_refl _, ⟨_, rfl, rfl⟩, rfl, rfl, rfl⟩
theorem mm_dropPlan_1 {n : Nat} {S : SS} {T : Int} (hn : 279 ≤ n) (hm : mr S = 268) (hV : VG T (S.1 268)) (hM : RM S) (hT : T < 2147400000) (k : Int32) (h1 : ¬ (inr k 0 (S.1 268 3 - 1))) : AM yX7_dropPlan cX7_dropPlan 2 (some .int) [] 2 0 0 [.ref 267, .int k] n (Hp S) (PI 0 n (th S 1)) := by
  intro has
  change WA RX7 cX7_dropPlan 2 [] _ _ 0 0 0 [some (.ref 267), some (.int k)] [] n _
  have hVr : VG T (row S) := by rw [row_net hm]; exact hV
  refine wa_aload_n dX7_dropPlan_0 rfl ?_
  refine wa_iload_n dX7_dropPlan_1 rfl ?_
  refine wa_i2l dX7_dropPlan_2 ?_
  refine wa_lconst (x := 0) dX7_dropPlan_3 (by decide) ?_
  refine wa_aload_n dX7_dropPlan_4 rfl ?_
  refine g_MO (by assumption) 1 dX7_dropPlan_5 fl_X7_17 (by decide) rfl ?_
  refine wa_iconst (x := 3) dX7_dropPlan_8 (by decide) ?_
  refine s_iald (j := 3) isA_net dX7_dropPlan_9 (ltS (by assumption)) rfl (by decide) ?_
  refine wa_iconst (x := 1) dX7_dropPlan_10 (by decide) ?_
  refine wa_isub dX7_dropPlan_11 ?_
  refine wa_i2l dX7_dropPlan_12 ?_
  refine c_SI dX7_dropPlan_13 (mm_inI (a := k) (b := 0) (c := S.1 268 3 - 1) (by first | rfl | decide) (by first | rfl | decide)) lk_X7_60 rfl ?_
  refine c_VI dX7_dropPlan_16 (mm_passes1 (by assumption) (inr k 0 (S.1 268 3 - 1))) lk_X7_155 rfl (isO_MO _ _ _) rfl (ltS (by assumption)) ?_
  rw [b2i_0 (fun z => h1 z), if_neg h1]
  refine wa_if_ne 24 dX7_dropPlan_19 rfl (fun c19 => absurd rfl c19) (fun c19 => ?_)
  refine wa_iconst (x := 0) dX7_dropPlan_22 (by decide) ?_
  exact wa_ireturn dX7_dropPlan_23 ⟨Nat.le_refl _, Nat.le_refl _, ⟨_, rfl, rfl⟩, rfl, rfl, rfl⟩
theorem mm_dropPlan_0 {n : Nat} {S : SS} {T : Int} (hn : 279 ≤ n) (hm : mr S = 268) (hV : VG T (S.1 268)) (hM : RM S) (hT : T < 2147400000) {k : Nat} (hk : k < pn (S.1 268)) (h1 : inr (nI k) 0 (S.1 268 3 - 1)) : AM yX7_dropPlan cX7_dropPlan 2 (some .int) [] 2 0 0 [.ref 267, .int (nI k)] n (Hp S) (PI (S.1 268 3 - 1) n (md (f_drop k 1) (f_rem (th S 0)))) := by
  intro has
  change WA RX7 cX7_dropPlan 2 [] _ _ 0 0 0 [some (.ref 267), some (.int (nI k))] [] n _
  have hVr : VG T (row S) := by rw [row_net hm]; exact hV
  have hV1 : VG T (row (th S 0)) := VG_th hVr 0
  have hM1 : RM (th S 0) := RM_th hM 0
  have em : (th S 0).1 268 = S.1 268 := th_n S 0 (by decide)
  have er : row (f_rem (th S 0)) = S.1 268 := (row_rem (S := th S 0) hm).trans em
  have en : (f_rem (th S 0)).1 268 = S.1 268 := (rem_n _ (by decide) (by decide)).trans em
  have hVm : VG T (row (f_rem (th S 0))) := by rw [er]; exact hV
  refine wa_aload_n dX7_dropPlan_0 rfl ?_
  refine wa_iload_n dX7_dropPlan_1 rfl ?_
  refine wa_i2l dX7_dropPlan_2 ?_
  refine wa_lconst (x := 0) dX7_dropPlan_3 (by decide) ?_
  refine wa_aload_n dX7_dropPlan_4 rfl ?_
  refine g_MO (by assumption) 1 dX7_dropPlan_5 fl_X7_17 (by decide) rfl ?_
  refine wa_iconst (x := 3) dX7_dropPlan_8 (by decide) ?_
  refine s_iald (j := 3) isA_net dX7_dropPlan_9 (ltS (by assumption)) rfl (by decide) ?_
  refine wa_iconst (x := 1) dX7_dropPlan_10 (by decide) ?_
  refine wa_isub dX7_dropPlan_11 ?_
  refine wa_i2l dX7_dropPlan_12 ?_
  refine c_SI dX7_dropPlan_13 (mm_inI (a := (nI k)) (b := 0) (c := S.1 268 3 - 1) (by first | rfl | decide) (by first | rfl | decide)) lk_X7_60 rfl ?_
  refine c_VI dX7_dropPlan_16 (mm_passes1 (by assumption) (inr (nI k) 0 (S.1 268 3 - 1))) lk_X7_155 rfl (isO_MO _ _ _) rfl (ltS (by assumption)) ?_
  rw [b2i_1 h1, if_pos h1]
  refine wa_if_ne 24 dX7_dropPlan_19 rfl (fun c19 => ?_) (fun c19 => absurd c19 (by decide))
  refine wa_aload_n dX7_dropPlan_24 rfl ?_
  refine c_VV dX7_dropPlan_25 (mm_remember (by assumption) (by assumption)) lk_X7_340 rfl (isO_MO _ _ _) rfl (ltS (by assumption)) ?_
  refine wa_aload_n dX7_dropPlan_28 rfl ?_
  refine wa_iload_n dX7_dropPlan_29 rfl ?_
  refine wa_iconst (x := 1) dX7_dropPlan_30 (by decide) ?_
  refine c_VV dX7_dropPlan_31 (mm_dropFirstPlans (a := k) (m := 1) (by assumption) (by rw [er]; exact (VG_pn hV).2) (by rw [er]; exact hV.2.2.1.1) (by rw [er]; omega)) lk_X7_138 rfl (isO_MO _ _ _) rfl (ltS (by assumption)) ?_
  refine wa_aload_n dX7_dropPlan_34 rfl ?_
  refine g_MO (by assumption) 1 dX7_dropPlan_35 fl_X7_17 (by decide) rfl ?_
  refine wa_iconst (x := 3) dX7_dropPlan_38 (by decide) ?_
  refine s_iald (j := 3) isA_net dX7_dropPlan_39 (ltS (by assumption)) rfl (by decide) ?_
  refine wa_ireturn dX7_dropPlan_40 ⟨Nat.le_refl _, Nat.le_refl _, ⟨_, rfl, rfl⟩, ri ?_, rfl, rfl⟩
  have e9 := md_1 (f_drop k 1) (f_rem (th S 0))
  rw [er, show mr (f_rem (th S 0)) = 268 from (mr_2 (rem_2 _)).trans hm] at e9
  rw [e9]
  rfl
theorem mm_tick_1 {n : Nat} {S : SS} {T : Int} (hn : 279 ≤ n) (hm : mr S = 268) (hV : VG T (S.1 268)) (hM : RM S) (hT : T < 2147400000) (x : Int32) (h1 : ¬ (inr x 1 200)) : AM yX7_tick cX7_tick 3 (some .int) [] 9 0 0 [.ref 267, .int x] n (Hp S) (PI 0 n (th S 1)) := by
  intro has
  change WA RX7 cX7_tick 3 [] _ _ 0 0 0 [some (.ref 267), some (.int x), none] [] n _
  have hVr : VG T (row S) := by rw [row_net hm]; exact hV
  refine wa_aload_n dX7_tick_0 rfl ?_
  refine wa_iload_n dX7_tick_1 rfl ?_
  refine wa_i2l dX7_tick_2 ?_
  refine wa_lconst (x := 1) dX7_tick_3 (by decide) ?_
  refine wa_ldc2 dX7_tick_4 wv_X7_401 ?_
  refine c_SI dX7_tick_7 (mm_inI (a := x) (b := 1) (c := 200) (by first | rfl | decide) (by first | rfl | decide)) lk_X7_60 rfl ?_
  refine c_VI dX7_tick_10 (mm_passes1 (by assumption) (inr x 1 200)) lk_X7_155 rfl (isO_MO _ _ _) rfl (ltS (by assumption)) ?_
  rw [b2i_0 (fun z => h1 z), if_neg h1]
  refine wa_if_ne 18 dX7_tick_13 rfl (fun c13 => absurd rfl c13) (fun c13 => ?_)
  refine wa_iconst (x := 0) dX7_tick_16 (by decide) ?_
  exact wa_ireturn dX7_tick_17 ⟨Nat.le_refl _, Nat.le_refl _, ⟨_, rfl, rfl⟩, rfl, rfl, rfl⟩
theorem mm_tick_0 {n : Nat} {S : SS} {T : Int} (hn : 279 ≤ n) (hm : mr S = 268) (hV : VG T (S.1 268)) (hM : RM S) (hT : T < 2147400000) {N : Nat} (hN : N ≤ 500) (h1 : inr (nI N) 1 200) : AM yX7_tick cX7_tick 3 (some .int) [] 9 0 0 [.ref 267, .int (nI N)] n (Hp S) (PI (sumN (ticksN (S.1 268) N) 12 (rn (S.1 268)) - sumN (S.1 268) 12 (rn (S.1 268))) n (md (fun g => ticksN g N) (f_rem (th S 0)))) := by
  intro has
  change WA RX7 cX7_tick 3 [] _ _ 0 0 0 [some (.ref 267), some (.int (nI N)), none] [] n _
  have hVr : VG T (row S) := by rw [row_net hm]; exact hV
  have hV1 : VG T (row (th S 0)) := VG_th hVr 0
  have hM1 : RM (th S 0) := RM_th hM 0
  have em : (th S 0).1 268 = S.1 268 := th_n S 0 (by decide)
  have er : row (f_rem (th S 0)) = S.1 268 := (row_rem (S := th S 0) hm).trans em
  have en : (f_rem (th S 0)).1 268 = S.1 268 := (rem_n _ (by decide) (by decide)).trans em
  have hVm : VG T (row (f_rem (th S 0))) := by rw [er]; exact hV
  have hV3 : VG (T + N) (row (md (fun g => ticksN g N) (f_rem (th S 0)))) := by rw [md_row]; exact VG_ticks hVm N (by omega)
  refine wa_aload_n dX7_tick_0 rfl ?_
  refine wa_iload_n dX7_tick_1 rfl ?_
  refine wa_i2l dX7_tick_2 ?_
  refine wa_lconst (x := 1) dX7_tick_3 (by decide) ?_
  refine wa_ldc2 dX7_tick_4 wv_X7_401 ?_
  refine c_SI dX7_tick_7 (mm_inI (a := (nI N)) (b := 1) (c := 200) (by first | rfl | decide) (by first | rfl | decide)) lk_X7_60 rfl ?_
  refine c_VI dX7_tick_10 (mm_passes1 (by assumption) (inr (nI N) 1 200)) lk_X7_155 rfl (isO_MO _ _ _) rfl (ltS (by assumption)) ?_
  rw [b2i_1 h1, if_pos h1]
  refine wa_if_ne 18 dX7_tick_13 rfl (fun c13 => ?_) (fun c13 => absurd c13 (by decide))
  refine wa_aload_n dX7_tick_18 rfl ?_
  refine c_VV dX7_tick_19 (mm_remember (by assumption) (by assumption)) lk_X7_340 rfl (isO_MO _ _ _) rfl (ltS (by assumption)) ?_
  refine wa_aload_n dX7_tick_22 rfl ?_
  refine wa_bipush (x := 12) dX7_tick_23 (by decide) ?_
  refine c_VI dX7_tick_25 (mm_sumOf (w := 12) hn (by decide) hVm) lk_X7_385 rfl (isO_MO _ _ _) rfl (ltS (by assumption)) ?_
  refine wa_istore_n dX7_tick_28 rfl ?_
  refine wa_aload_n dX7_tick_29 rfl ?_
  refine wa_iload_n dX7_tick_30 rfl ?_
  refine c_VV dX7_tick_31 (mm_ticks hn (by omega) hVm (by omega)) lk_X7_147 rfl (isO_MO _ _ _) rfl (ltS (by assumption)) ?_
  refine wa_aload_n dX7_tick_34 rfl ?_
  refine wa_bipush (x := 12) dX7_tick_35 (by decide) ?_
  refine c_VI dX7_tick_37 (mm_sumOf (w := 12) hn (by decide) hV3) lk_X7_385 rfl (isO_MO _ _ _) rfl (ltS (by assumption)) ?_
  refine wa_iload_n dX7_tick_40 rfl ?_
  refine wa_isub dX7_tick_41 ?_
  exact wa_ireturn dX7_tick_42 ⟨Nat.le_refl _, Nat.le_refl _, ⟨_, rfl, rfl⟩, (ri (by rw [md_row, er, rn_ticks])), rfl, rfl⟩
