/-! ValveRoomModel: its gates. Written by program (wip/whole/gen/m560.py) but for the heads. -/
/-- the exception told -/
def th (S : SS) (x : Int32) : SS := ss S 267 0 x
theorem th_n (S : SS) (x : Int32) {a : Nat} (h : ¬ a = 267) : (th S x).1 a = S.1 a := if_neg h
theorem th_k (S : SS) (x : Int32) {j : Nat} (h : ¬ j = 0) : (th S x).1 267 j = S.1 267 j := by
  unfold th
  rw [ss_1, if_neg (fun z => h z.2)]
theorem mr_cases (S : SS) : mr S = 268 ∨ mr S = 269 := by
  unfold mr
  split
  · exact Or.inr rfl
  · exact Or.inl rfl
theorem row_th (S : SS) (x : Int32) : row (th S x) = row S := by
  show (th S x).1 (mr S) = S.1 (mr S)
  rcases mr_cases S with h | h <;> rw [h] <;> exact th_n S x (by decide)
theorem ri {a b : Int32} (h : a = b) : (.inl (some (.int a)) : ab_R) = .inl (some (.int b)) := by rw [h]
theorem b2i_t {P : Prop} [Decidable P] (h : ¬ b2i P = 0) : P := Classical.byContradiction fun z => h (if_neg z)
theorem b2i_f {P : Prop} [Decidable P] (h : b2i P = 0) : ¬ P := fun z => absurd ((if_pos z).symm.trans h) (by decide)
theorem b2i_cg {P P' : Prop} [Decidable P] [Decidable P'] (h : P ↔ P') : b2i P = b2i P' := by
  unfold b2i
  by_cases q : P
  · rw [if_pos q, if_pos (h.mp q)]
  · rw [if_neg q, if_neg (fun z => q (h.mpr z))]
theorem p3_1 (P : Prop) [Decidable P] : p3 (b2i P) 1 1 = if P then 0 else 1 := by
  unfold p3 b2i
  split <;> simp_all
theorem p3_2 (P P' : Prop) [Decidable P] [Decidable P'] : p3 (b2i P) (b2i P') 1 = if P then (if P' then 0 else 2) else 1 := by
  unfold p3 b2i
  by_cases h : P <;> by_cases h2 : P' <;> simp [h, h2]
theorem p3_3 (P P' P'' : Prop) [Decidable P] [Decidable P'] [Decidable P''] : p3 (b2i P) (b2i P') (b2i P'') = if P then (if P' then (if P'' then 0 else 3) else 2) else 1 := by
  unfold p3 b2i
  by_cases h : P <;> by_cases h2 : P' <;> by_cases h3 : P'' <;> simp [h, h2, h3]
theorem mm_passes1 {n : Nat} {S : SS} (hn : 279 ≤ n) (P : Prop) [Decidable P] : AM yX7_passes cX7_passes 2 (some .boolean) [] 1 0 0 [.ref 267, .int (b2i P)] n (Hp S) (PI (b2i P) n (th S (if P then 0 else 1))) := by
  have h := mm_passes (n := n) (S := S) hn (b2i P)
  rw [p3_1] at h
  rw [show b2i P = b2i ((if P then (0 : Int32) else 1) = 0) from b2i_cg (by split <;> simp_all)]
  rw [show b2i P = b2i ((if P then (0 : Int32) else 1) = 0) from b2i_cg (by split <;> simp_all)] at h
  exact h
theorem mm_passesP {n : Nat} {S : SS} (hn : 279 ≤ n) (P P' : Prop) [Decidable P] [Decidable P'] : AM yX7_passes2 cX7_passes2 3 (some .boolean) [] 1 0 0 [.ref 267, .int (b2i P), .int (b2i P')] n (Hp S) (PI (b2i (P ∧ P')) n (th S (if P then (if P' then 0 else 2) else 1))) := by
  have h := mm_passes2 (n := n) (S := S) hn (b2i P) (b2i P')
  rw [p3_2] at h
  rw [show b2i ((if P then (if P' then (0 : Int32) else 2) else 1) = 0) = b2i (P ∧ P') from b2i_cg (by by_cases h : P <;> by_cases h2 : P' <;> simp [h, h2])] at h
  exact h
theorem mm_passesQ {n : Nat} {S : SS} (hn : 279 ≤ n) (P P' P'' : Prop) [Decidable P] [Decidable P'] [Decidable P''] : AM yX7_passes3 cX7_passes3 4 (some .boolean) [] 0 0 0 [.ref 267, .int (b2i P), .int (b2i P'), .int (b2i P'')] n (Hp S) (PI (b2i (P ∧ P' ∧ P'')) n (th S (if P then (if P' then (if P'' then 0 else 3) else 2) else 1))) := by
  have h := mm_passes3 (n := n) (S := S) hn (b2i P) (b2i P') (b2i P'')
  rw [p3_3] at h
  rw [show b2i ((if P then (if P' then (if P'' then (0 : Int32) else 3) else 2) else 1) = 0) = b2i (P ∧ P' ∧ P'') from b2i_cg (by by_cases h : P <;> by_cases h2 : P' <;> by_cases h3 : P'' <;> simp [h, h2, h3])] at h
  exact h
theorem i64_le {a b : Int32} : a.toInt64 ≤ b.toInt64 ↔ a ≤ b := by
  rw [Int64.le_iff_toInt_le, Int32.le_iff_toInt_le, Int32.toInt_toInt64, Int32.toInt_toInt64]
/-- b ≤ a ≤ c -/
abbrev inr (a b c : Int32) : Prop := b ≤ a ∧ a ≤ c
theorem mm_inI {n : Nat} {h : ab_H} {a b c : Int32} {lo hi : Int64} (e1 : lo = b.toInt64) (e2 : hi = c.toInt64) : AM yX7_in cX7_in 6 (some .boolean) [] 0 0 0 [.long a.toInt64, .long lo, .long hi] n h (PIh (b2i (inr a b c)) n h) := by
  subst e1; subst e2
  have h := mm_in (n := n) (h := h) a.toInt64 b.toInt64 c.toInt64
  rw [show b2i (b.toInt64 ≤ a.toInt64 ∧ a.toInt64 ≤ c.toInt64) = b2i (inr a b c) from b2i_cg (by rw [i64_le, i64_le])] at h
  exact h
/-- r is a room's number -/
abbrev rk (S : SS) (r : Int32) : Prop := 0 ≤ r ∧ r < row S 0
theorem rk_in {S : SS} {T : Int} (hV : VG T (row S)) (r : Int32) : inr r 0 (row S 0 - 1) ↔ rk S r := by
  have h := hV.2.1
  have e1 : (1 : Int32).toInt = 1 := by decide
  have e : (row S 0 - 1).toInt = (row S 0).toInt - 1 := by rw [i_sub (by omega) (by omega), e1]
  show 0 ≤ r ∧ r ≤ row S 0 - 1 ↔ 0 ≤ r ∧ r < row S 0
  have e0 : (0 : Int32).toInt = 0 := by decide
  rw [Int32.le_iff_toInt_le (x := r), Int32.lt_iff_toInt_lt (x := r), Int32.le_iff_toInt_le, e, e0]
  omega
theorem rk_ix {S : SS} {T : Int} {r : Int32} (hV : VG T (row S)) (h : rk S r) : r = nI r.toInt.toNat ∧ r.toInt.toNat < 6 ∧ r.toInt.toNat < rn (row S) := by
  have h0 : 0 ≤ r.toInt := Int32.le_iff_toInt_le.mp h.1
  have h1 := Int32.lt_iff_toInt_lt.mp h.2
  have := hV.2.1
  refine ⟨(nI_of_nn h0).1, by omega, ?_⟩
  unfold rn
  omega
theorem VG_th {S : SS} {T : Int} (hV : VG T (row S)) (x : Int32) : VG T (row (th S x)) := by rw [row_th]; exact hV
theorem mt_targetOf {n i : Nat} {S : SS} {T : Int} (hn : 279 ≤ n) (hi : i < 6) (hV : VG T (row S)) : AM yX7_targetOf cX7_targetOf 3 (some .int) [] 3 0 0 [.ref 267, .int (nI i)] n (Hp S) (PI (tgt (row S) i) n S) := mm_targetOf hn hi (hV.2.2.2.2 i) hV.1.1
theorem mt_wantedIn {n i : Nat} {S : SS} {T : Int} (hn : 279 ≤ n) (hi : i < 6) (hV : VG T (row S)) : AM yX7_wantedIn cX7_wantedIn 4 (some .int) [] 5 0 0 [.ref 267, .int (nI i)] n (Hp S) (PI (wnt (row S) i) n S) := mm_wantedIn hn hi (hV.2.2.2.2 i) hV.1.1
theorem mt_isInBand {n i : Nat} {S : SS} {T : Int} (hn : 279 ≤ n) (hi : i < 6) (hV : VG T (row S)) : AM yX7_isInBand cX7_isInBand 2 (some .boolean) [] 4 0 0 [.ref 267, .int (nI i)] n (Hp S) (PI (b2i (i_abs (mis (row S) i) ≤ row S 7)) n S) := mm_isInBand hn hi (hV.2.2.2.2 i) hV.1.1
theorem mm_isRoom {n : Nat} {S : SS} {T : Int} (hn : 279 ≤ n) (hV : VG T (row S)) (r : Int32) : AM yX7_isRoom cX7_isRoom 2 (some .boolean) [] 1 0 0 [.ref 267, .int r] n (Hp S) (PI (b2i (rk S r)) n S) := by
  intro has
  change WA RX7 cX7_isRoom 2 [] _ _ 0 0 0 [some (.ref 267), some (.int r)] [] n _
  refine wa_iload_n dX7_isRoom_0 rfl ?_
  refine wa_i2l dX7_isRoom_1 ?_
  refine wa_lconst (x := 0) dX7_isRoom_2 (by decide) ?_
  refine wa_aload_n dX7_isRoom_3 rfl ?_
  refine c_VI dX7_isRoom_4 (mm_rooms (by assumption)) lk_X7_56 rfl (isO_MO _ _ _) rfl (ltS (by assumption)) ?_
  refine wa_iconst (x := 1) dX7_isRoom_7 (by decide) ?_
  refine wa_isub dX7_isRoom_8 ?_
  refine wa_i2l dX7_isRoom_9 ?_
  refine c_SI dX7_isRoom_10 (mm_inI (a := r) (b := 0) (c := S.1 (mr S) 0 - 1) (lo := 0) (by decide) rfl) lk_X7_60 rfl ?_
  exact wa_ireturn dX7_isRoom_13 ⟨Nat.le_refl _, Nat.le_refl _, ⟨_, rfl, by unfold b2i; split <;> rfl⟩, ri (b2i_cg (rk_in hV r)), rfl, rfl⟩
theorem mm_isTick {n : Nat} {h : ab_H} (a : Int32) : AM yX7_isTick cX7_isTick 1 (some .boolean) [] 1 0 0 [.int a] n h (PIh (b2i (inr a 0 47)) n h) := by
  intro has
  change WA RX7 cX7_isTick 1 [] _ _ 0 0 0 [some (.int a)] [] n _
  refine wa_iload_n dX7_isTick_0 rfl ?_
  refine wa_i2l dX7_isTick_1 ?_
  refine wa_lconst (x := 0) dX7_isTick_2 (by decide) ?_
  refine wa_ldc2 dX7_isTick_3 wv_X7_361 ?_
  refine c_SI dX7_isTick_6 (mm_inI (b := 0) (c := 47) (by decide) (by decide)) lk_X7_60 rfl ?_
  exact wa_ireturn dX7_isTick_9 ⟨Nat.le_refl _, Nat.le_refl _, ⟨_, rfl, by unfold b2i; split <;> rfl⟩, rfl, rfl, rfl⟩
theorem mm_isCount {n : Nat} {h : ab_H} (a : Int32) : AM yX7_isCount cX7_isCount 1 (some .boolean) [] 1 0 0 [.int a] n h (PIh (b2i (inr a 0 5)) n h) := by
  intro has
  change WA RX7 cX7_isCount 1 [] _ _ 0 0 0 [some (.int a)] [] n _
  refine wa_iload_n dX7_isCount_0 rfl ?_
  refine wa_i2l dX7_isCount_1 ?_
  refine wa_lconst (x := 0) dX7_isCount_2 (by decide) ?_
  refine wa_ldc2 dX7_isCount_3 wv_X7_356 ?_
  refine c_SI dX7_isCount_6 (mm_inI (b := 0) (c := 5) (by decide) (by decide)) lk_X7_60 rfl ?_
  exact wa_ireturn dX7_isCount_9 ⟨Nat.le_refl _, Nat.le_refl _, ⟨_, rfl, by unfold b2i; split <;> rfl⟩, rfl, rfl, rfl⟩
theorem mm_areTicks {n : Nat} {h : ab_H} (a : Int32) : AM yX7_areTicks cX7_areTicks 1 (some .boolean) [] 1 0 0 [.int a] n h (PIh (b2i (inr a 0 500)) n h) := by
  intro has
  change WA RX7 cX7_areTicks 1 [] _ _ 0 0 0 [some (.int a)] [] n _
  refine wa_iload_n dX7_areTicks_0 rfl ?_
  refine wa_i2l dX7_areTicks_1 ?_
  refine wa_lconst (x := 0) dX7_areTicks_2 (by decide) ?_
  refine wa_ldc2 dX7_areTicks_3 wv_X7_368 ?_
  refine c_SI dX7_areTicks_6 (mm_inI (b := 0) (c := 500) (by decide) (by decide)) lk_X7_60 rfl ?_
  exact wa_ireturn dX7_areTicks_9 ⟨Nat.le_refl _, Nat.le_refl _, ⟨_, rfl, by unfold b2i; split <;> rfl⟩, rfl, rfl, rfl⟩
theorem mm_isOutside {n : Nat} {h : ab_H} (a : Int32) : AM yX7_isOutside cX7_isOutside 1 (some .boolean) [] 1 0 0 [.int a] n h (PIh (b2i (inr a (-300) 400)) n h) := by
  intro has
  change WA RX7 cX7_isOutside 1 [] _ _ 0 0 0 [some (.int a)] [] n _
  refine wa_iload_n dX7_isOutside_0 rfl ?_
  refine wa_i2l dX7_isOutside_1 ?_
  refine wa_ldc2 dX7_isOutside_2 wv_X7_391 ?_
  refine wa_ldc2 dX7_isOutside_5 wv_X7_393 ?_
  refine c_SI dX7_isOutside_8 (mm_inI (b := (-300)) (c := 400) (by decide) (by decide)) lk_X7_60 rfl ?_
  exact wa_ireturn dX7_isOutside_11 ⟨Nat.le_refl _, Nat.le_refl _, ⟨_, rfl, by unfold b2i; split <;> rfl⟩, rfl, rfl, rfl⟩
theorem mm_isTarget {n : Nat} {h : ab_H} (a : Int32) : AM yX7_isTarget cX7_isTarget 1 (some .boolean) [] 1 0 0 [.int a] n h (PIh (b2i (inr a 50 300)) n h) := by
  intro has
  change WA RX7 cX7_isTarget 1 [] _ _ 0 0 0 [some (.int a)] [] n _
  refine wa_iload_n dX7_isTarget_0 rfl ?_
  refine wa_i2l dX7_isTarget_1 ?_
  refine wa_ldc2 dX7_isTarget_2 wv_X7_403 ?_
  refine wa_ldc2 dX7_isTarget_5 wv_X7_405 ?_
  refine c_SI dX7_isTarget_8 (mm_inI (b := 50) (c := 300) (by decide) (by decide)) lk_X7_60 rfl ?_
  exact wa_ireturn dX7_isTarget_11 ⟨Nat.le_refl _, Nat.le_refl _, ⟨_, rfl, by unfold b2i; split <;> rfl⟩, rfl, rfl, rfl⟩
theorem mm_isKeep {n : Nat} {h : ab_H} (a : Int32) : AM yX7_isKeep cX7_isKeep 1 (some .boolean) [] 1 0 0 [.int a] n h (PIh (b2i (inr a 0 1)) n h) := by
  intro has
  change WA RX7 cX7_isKeep 1 [] _ _ 0 0 0 [some (.int a)] [] n _
  refine wa_iload_n dX7_isKeep_0 rfl ?_
  refine wa_i2l dX7_isKeep_1 ?_
  refine wa_lconst (x := 0) dX7_isKeep_2 (by decide) ?_
  refine wa_lconst (x := 1) dX7_isKeep_3 (by decide) ?_
  refine c_SI dX7_isKeep_4 (mm_inI (b := 0) (c := 1) (by decide) (by decide)) lk_X7_60 rfl ?_
  exact wa_ireturn dX7_isKeep_7 ⟨Nat.le_refl _, Nat.le_refl _, ⟨_, rfl, by unfold b2i; split <;> rfl⟩, rfl, rfl, rfl⟩
def f_rem1 (m : Nat) (S : SS) : SS := ss (su S 275 (cpo (S.1 275) (S.1 268) (467 * m) 467)) 267 18 (nI (m + 1))
def f_rem (S : SS) : SS := if S.1 267 18 = 6 then f_rem1 5 (ss (su S 275 (f_shift (S.1 275) 2802)) 267 18 5) else f_rem1 (S.1 267 18).toInt.toNat S
/-- how many calls are remembered -/
def RM (S : SS) : Prop := 0 ≤ (S.1 267 18).toInt ∧ (S.1 267 18).toInt ≤ 6
theorem rem_tail {Q : ab_Q} {n m : Nat} {S : SS} (l1 : Option Value) (hn : 279 ≤ n) (hm : m < 6) (h18 : S.1 267 18 = nI m) (hQ : Q (.inl none) 0 0 n (Hp (f_rem1 m S))) : WA RX7 cX7_remember 2 [] (ab_rm 0 0 0) Q 0 0 52 [some (.ref 267), l1] [] n (Hp S) := by
  refine wa_iconst (x := 0) dX7_remember_52 (by decide) ?_
  refine wa_istore_n dX7_remember_53 rfl ?_
  refine wa_cg (S1 := su S 275 (cpo (S.1 275) (S.1 268) (467 * m) 0)) (by rw [cpo_0]; exact su_self S 275) ?_
  refine lp_rem (S := S) (S.1 275) hn hm h18 (fun l1 => ?_) 467 0 (Nat.zero_add _)
  have e18 : (su S 275 (cpo (S.1 275) (S.1 268) (467 * m) 467)).1 267 18 = nI m := by rw [su_n S _ (by decide)]; exact h18
  refine wa_aload_n dX7_remember_88 rfl ?_
  refine wa_dup dX7_remember_89 rfl ?_
  refine g_MO (by assumption) 18 dX7_remember_90 fl_X7_421 (by decide) rfl ?_
  refine wa_iconst (x := 1) dX7_remember_93 (by decide) ?_
  refine wa_iadd dX7_remember_94 ?_
  rw [e18, nI_1 m]
  refine p_MO (by assumption) 18 dX7_remember_95 fl_X7_421 (by decide) rfl rfl rfl rfl (fun _ _ _ => rfl) (Nat.le_of_ble_eq_true rfl) ?_
  exact wa_return dX7_remember_98 hQ
theorem mm_remember {n : Nat} {S : SS} (hn : 279 ≤ n) (hM : RM S) : AM yX7_remember cX7_remember 2 none [] 0 0 0 [.ref 267] n (Hp S) (PV n (f_rem S)) := by
  intro has
  change WA RX7 cX7_remember 2 [] _ _ 0 0 0 [some (.ref 267), none] [] n _
  refine wa_aload_n dX7_remember_0 rfl ?_
  refine g_MO (by assumption) 18 dX7_remember_1 fl_X7_421 (by decide) rfl ?_
  refine wa_bipush (x := 6) dX7_remember_4 (by decide) ?_
  refine wa_icmp_ne 52 dX7_remember_6 rfl (fun c6 => ?_) (fun c6 => ?_)
  · refine rem_tail (m := (S.1 267 18).toInt.toNat) _ hn ?_ (nI_of_nn hM.1).1 ⟨Nat.le_refl _, Nat.le_refl _, rfl, rfl, rfl, congrArg Hp ?_⟩
    · have h6 : ¬ (S.1 267 18).toInt = 6 := fun z => c6 (Int32.toInt_inj.mp z)
      have := hM.1
      have := hM.2
      omega
    · unfold f_rem
      rw [if_neg c6]
  · refine wa_sipush (x := 467) dX7_remember_9 (by decide) ?_
    refine wa_istore_n dX7_remember_12 rfl ?_
    refine wa_cg (S1 := su S 275 (f_shift (S.1 275) (467 + 0))) (by rw [Nat.add_zero, shift_0]; exact su_self S 275) ?_
    refine lp_shift (S := S) (S.1 275) hn (fun l1 => ?_) 2335 0 (Nat.zero_add _)
    have e18 : (su S 275 (f_shift (S.1 275) 2802)).1 267 18 = 6 := by rw [su_n S _ (by decide)]; exact c6
    refine wa_aload_n dX7_remember_42 rfl ?_
    refine wa_dup dX7_remember_43 rfl ?_
    refine g_MO (by assumption) 18 dX7_remember_44 fl_X7_421 (by decide) rfl ?_
    refine wa_iconst (x := 1) dX7_remember_47 (by decide) ?_
    refine wa_isub dX7_remember_48 ?_
    rw [e18, show (6 : Int32) - 1 = 5 from rfl]
    refine p_MO (by assumption) 18 dX7_remember_49 fl_X7_421 (by decide) rfl rfl rfl rfl (fun _ _ _ => rfl) (Nat.le_of_ble_eq_true rfl) ?_
    refine rem_tail (m := 5) _ hn (by decide) (by rw [ss_1, if_pos ⟨rfl, rfl⟩]; rfl) ⟨Nat.le_refl _, Nat.le_refl _, rfl, rfl, rfl, congrArg Hp ?_⟩
    unfold f_rem
    rw [if_pos c6]
