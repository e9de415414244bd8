/-! ValveRoomModel: what would be. Written by program (wip/whole/gen/m575.py) but for the heads. -/
theorem lp_backS {Q : ab_Q} {n : Nat} {S : SS} (f : Nat → Int32) (hn : 279 ≤ n) (x : Int32) (hQ : WA RX7 cX7_layBack 3 [] (ab_rm 0 0 0) Q 0 0 27 [some (.ref 267), some (.int x), some (.int (nI 467))] [] n (Hp (su S 268 (cp f (S.1 270) 467)))) :
    ∀ (r k : Nat), k + r = 467 → WA RX7 cX7_layBack 3 [] (ab_rm 0 0 0) Q 0 0 2 [some (.ref 267), some (.int x), some (.int (nI k))] [] n (Hp (su S 268 (cp f (S.1 270) k))) := by
  intro r
  induction r with
  | zero =>
    intro k hk
    have hk' : 467 = k := by omega
    
    have hk2 : k = 467 := by omega
    subst hk2
    refine wa_iload_n dX7_layBack_2 rfl ?_
    refine wa_sipush (x := 467) dX7_layBack_3 (by decide) ?_
    refine wa_icmp_ge 27 dX7_layBack_6 rfl (fun c6 => ?_) (fun c6 => absurd (nI_le (a := 467) (Nat.le_refl _) (by omega)) c6)
    exact hQ
  | succ r ih =>
    intro k hk
    have e : (su S 268 (cp f (S.1 270) k)).1 270 k = S.1 270 k := by rw [su_n S _ (by decide)]
    refine wa_iload_n dX7_layBack_2 rfl ?_
    refine wa_sipush (x := 467) dX7_layBack_3 (by decide) ?_
    refine wa_icmp_ge 27 dX7_layBack_6 rfl (fun c6 => absurd c6 (nI_ge (a := k) (b := 467) (by omega) (by omega))) (fun c6 => ?_)
    refine wa_aload_n dX7_layBack_9 rfl ?_
    refine g_MO (by assumption) 1 dX7_layBack_10 fl_X7_17 (by decide) rfl ?_
    refine wa_iload_n dX7_layBack_13 rfl ?_
    refine wa_aload_n dX7_layBack_14 rfl ?_
    refine g_MO (by assumption) 4 dX7_layBack_15 fl_X7_27 (by decide) rfl ?_
    refine wa_iload_n dX7_layBack_18 rfl ?_
    refine s_iald (j := k) isA_aside dX7_layBack_19 (ltS (by assumption)) (ix_nI (by omega)) (by omega) ?_
    rw [e]
    refine s_iast (j := k) isA_net dX7_layBack_20 (ltS (by assumption)) (ix_nI (by omega)) (by omega) ?_
    rw [su_a, cp_s]
    refine wa_iinc (y := 1) dX7_layBack_21 rfl (by decide) rfl ?_
    refine wa_goto 2 dX7_layBack_24 rfl ?_
    rw [nI_1 k]
    exact ih (k + 1) (by omega)
/-- S1 goes back to S0 when the row is laid back -/
def TB (S0 S1 : SS) : Prop := S1.2 = S0.2 ∧ (∀ b, ¬ b = 268 → S1.1 b = S0.1 b) ∧ ∀ j, j < 467 → S1.1 270 j = S0.1 268 j
theorem TB_0 (S : SS) : TB (f_aside S) (f_aside S) := ⟨rfl, fun _ _ => rfl, fun j hj => by
  unfold f_aside
  rw [su_s, su_n S _ (by decide)]
  exact if_pos hj⟩
theorem TB_su {S0 S1 : SS} (h : TB S0 S1) (f : Nat → Int32) : TB S0 (su S1 268 f) := ⟨h.1, fun b hb => (su_n S1 f hb).trans (h.2.1 b hb), fun j hj => by rw [su_n S1 f (by decide)]; exact h.2.2 j hj⟩
theorem TB_md {S0 S1 : SS} (h : TB S0 S1) (hm : mr S1 = 268) (F : (Nat → Int32) → Nat → Int32) : TB S0 (md F S1) := by
  unfold md
  rw [hm]
  exact TB_su h _
theorem rn_tick (g : Nat → Int32) : f_tick g 0 = g 0 := by
  unfold f_tick
  rw [(kp_goOns _ _).2 0 (by decide)]
  unfold f_due
  rw [drop_lo (by decide) (by decide), (kp_cars _ _).2 0 (by decide)]
  rfl
theorem rn_ticks0 (g : Nat → Int32) : ∀ N, ticksN g N 0 = g 0
  | 0 => rfl
  | N + 1 => (rn_tick _).trans (rn_ticks0 g N)
theorem rn_ticks (g : Nat → Int32) (N : Nat) : rn (ticksN g N) = rn g := congrArg (fun x : Int32 => x.toInt.toNat) (rn_ticks0 g N)
theorem row_aside {S : SS} (hm : mr S = 268) : row (f_aside S) = S.1 268 := by
  show (f_aside S).1 (mr S) = _
  rw [hm]
  exact su_n S _ (by decide)
theorem aside_2 (S : SS) : f_aside (f_aside S) = f_aside S := by
  unfold f_aside
  rw [su_s, su_n S _ (by decide)]
  show ((fun k => if k = 270 then _ else (su S 270 _).1 k), S.2) = _
  refine Prod.ext (funext fun k => ?_) rfl
  show (if k = 270 then _ else (if k = 270 then _ else S.1 k)) = (if k = 270 then _ else S.1 k)
  by_cases hk : k = 270
  · rw [if_pos hk, if_pos hk]
    funext j
    unfold cp
    split <;> rfl
  · rw [if_neg hk, if_neg hk]
theorem mm_layBackS {n : Nat} {S S0 : SS} (hn : 279 ≤ n) (x : Int32) (h : TB S0 S) : AM yX7_layBack cX7_layBack 3 (some .int) [] 0 0 0 [.ref 267, .int x] n (Hp S) (PI x n S0) := by
  intro has
  change WA RX7 cX7_layBack 3 [] _ _ 0 0 0 [some (.ref 267), some (.int x), none] [] n _
  refine wa_iconst (x := 0) dX7_layBack_0 (by decide) ?_
  refine wa_istore_n dX7_layBack_1 rfl ?_
  refine wa_cg (su_id S 268 (S.1 270)) ?_
  refine lp_backS (S := S) (S.1 268) hn x ?_ 467 0 (Nat.zero_add _)
  refine wa_extS (a := 268) (len := 467) (S' := S0) isA_net h.1.symm (fun b hb => ((su_n S _ hb).trans (h.2.1 b hb)).symm) (fun j hj => by rw [su_s]; exact (if_pos hj).trans (h.2.2 j hj)) ?_
  refine wa_iload_n dX7_layBack_27 rfl ?_
  exact wa_ireturn dX7_layBack_28 ⟨Nat.le_refl _, Nat.le_refl _, ⟨_, rfl, rfl⟩, rfl, rfl, rfl⟩
theorem mm_tempIn_1 {n : Nat} {S : SS} {T : Int} (hn : 279 ≤ n) (hm : mr S = 268) (hV : VG T (S.1 268)) (hT : T < 2147400000) (r many : Int32) (h1 : ¬ (rk S r)) : AM yX7_tempIn cX7_tempIn 3 (some .int) [] 10 0 0 [.ref 267, .int r, .int many] n (Hp S) (PI 0 n (th S 1)) := by
  intro has
  change WA RX7 cX7_tempIn 3 [] _ _ 0 0 0 [some (.ref 267), some (.int r), some (.int many)] [] n _
  have hVr : VG T (row S) := by rw [row_net hm]; exact hV
  refine wa_aload_n dX7_tempIn_0 rfl ?_
  refine wa_aload_n dX7_tempIn_1 rfl ?_
  refine wa_iload_n dX7_tempIn_2 rfl ?_
  refine c_VI dX7_tempIn_3 (mm_isRoom (by assumption) hVr r) lk_X7_347 rfl (isO_MO _ _ _) rfl (ltS (by assumption)) ?_
  refine wa_iload_n dX7_tempIn_6 rfl ?_
  refine c_SI dX7_tempIn_7 (mm_areTicks _) lk_X7_370 rfl ?_
  refine c_VI dX7_tempIn_10 (mm_passesP (by assumption) (rk S r) (inr many 0 500)) lk_X7_352 rfl (isO_MO _ _ _) rfl (ltS (by assumption)) ?_
  rw [b2i_0 (fun z => h1 z.1), if_neg h1]
  refine wa_if_ne 18 dX7_tempIn_13 rfl (fun c13 => absurd rfl c13) (fun c13 => ?_)
  refine wa_iconst (x := 0) dX7_tempIn_16 (by decide) ?_
  exact wa_ireturn dX7_tempIn_17 ⟨Nat.le_refl _, Nat.le_refl _, ⟨_, rfl, rfl⟩, rfl, rfl, rfl⟩
theorem mm_tempIn_2 {n : Nat} {S : SS} {T : Int} (hn : 279 ≤ n) (hm : mr S = 268) (hV : VG T (S.1 268)) (hT : T < 2147400000) (r many : Int32) (h1 : rk S r) (h2 : ¬ (inr many 0 500)) : AM yX7_tempIn cX7_tempIn 3 (some .int) [] 10 0 0 [.ref 267, .int r, .int many] n (Hp S) (PI 0 n (th S 2)) := by
  intro has
  change WA RX7 cX7_tempIn 3 [] _ _ 0 0 0 [some (.ref 267), some (.int r), some (.int many)] [] n _
  have hVr : VG T (row S) := by rw [row_net hm]; exact hV
  refine wa_aload_n dX7_tempIn_0 rfl ?_
  refine wa_aload_n dX7_tempIn_1 rfl ?_
  refine wa_iload_n dX7_tempIn_2 rfl ?_
  refine c_VI dX7_tempIn_3 (mm_isRoom (by assumption) hVr r) lk_X7_347 rfl (isO_MO _ _ _) rfl (ltS (by assumption)) ?_
  refine wa_iload_n dX7_tempIn_6 rfl ?_
  refine c_SI dX7_tempIn_7 (mm_areTicks _) lk_X7_370 rfl ?_
  refine c_VI dX7_tempIn_10 (mm_passesP (by assumption) (rk S r) (inr many 0 500)) lk_X7_352 rfl (isO_MO _ _ _) rfl (ltS (by assumption)) ?_
  rw [b2i_0 (fun z => h2 z.2), if_pos h1, if_neg h2]
  refine wa_if_ne 18 dX7_tempIn_13 rfl (fun c13 => absurd rfl c13) (fun c13 => ?_)
  refine wa_iconst (x := 0) dX7_tempIn_16 (by decide) ?_
  exact wa_ireturn dX7_tempIn_17 ⟨Nat.le_refl _, Nat.le_refl _, ⟨_, rfl, rfl⟩, rfl, rfl, rfl⟩
theorem mm_tempIn_0 {n : Nat} {S : SS} {T : Int} (hn : 279 ≤ n) (hm : mr S = 268) (hV : VG T (S.1 268)) (hT : T < 2147400000) {i : Nat} (hi : i < 6) {N : Nat} (hN : N ≤ 500) (h1 : rk S (nI i)) (h2 : inr (nI N) 0 500) : AM yX7_tempIn cX7_tempIn 3 (some .int) [] 10 0 0 [.ref 267, .int (nI i), .int (nI N)] n (Hp S) (PI (of (ticksN (S.1 268) N) i 0) n (f_aside (th S 0))) := by
  intro has
  change WA RX7 cX7_tempIn 3 [] _ _ 0 0 0 [some (.ref 267), some (.int (nI i)), some (.int (nI N))] [] n _
  have hVr : VG T (row S) := by rw [row_net hm]; exact hV
  have hV1 : VG T (row (th S 0)) := VG_th hVr 0
  have e2 : row (f_aside (th S 0)) = S.1 268 := (row_aside (S := th S 0) hm).trans (th_n S 0 (by decide))
  have hV2 : VG T (row (f_aside (th S 0))) := by rw [e2]; exact hV
  refine wa_aload_n dX7_tempIn_0 rfl ?_
  refine wa_aload_n dX7_tempIn_1 rfl ?_
  refine wa_iload_n dX7_tempIn_2 rfl ?_
  refine c_VI dX7_tempIn_3 (mm_isRoom (by assumption) hVr (nI i)) lk_X7_347 rfl (isO_MO _ _ _) rfl (ltS (by assumption)) ?_
  refine wa_iload_n dX7_tempIn_6 rfl ?_
  refine c_SI dX7_tempIn_7 (mm_areTicks _) lk_X7_370 rfl ?_
  refine c_VI dX7_tempIn_10 (mm_passesP (by assumption) (rk S (nI i)) (inr (nI N) 0 500)) lk_X7_352 rfl (isO_MO _ _ _) rfl (ltS (by assumption)) ?_
  rw [b2i_1 ⟨h1, h2⟩, if_pos h1, if_pos h2]
  refine wa_if_ne 18 dX7_tempIn_13 rfl (fun c13 => ?_) (fun c13 => absurd c13 (by decide))
  refine wa_aload_n dX7_tempIn_18 rfl ?_
  refine c_VV dX7_tempIn_19 (mm_keepAside (by assumption)) lk_X7_373 rfl (isO_MO _ _ _) rfl (ltS (by assumption)) ?_
  refine wa_aload_n dX7_tempIn_22 rfl ?_
  refine wa_aload_n dX7_tempIn_23 rfl ?_
  refine wa_iload_n dX7_tempIn_24 rfl ?_
  refine wa_iconst (x := 0) dX7_tempIn_25 (by decide) ?_
  refine wa_iload_n dX7_tempIn_26 rfl ?_
  refine c_VI dX7_tempIn_27 (mm_later (w := 0) hn (by omega) hi (by decide) hV2 (by omega)) lk_X7_376 rfl (isO_MO _ _ _) rfl (ltS (by assumption)) ?_
  refine c_VI dX7_tempIn_30 (mm_layBackS (by assumption) _ (TB_md (TB_0 (th S 0)) hm _)) lk_X7_379 rfl (isO_MO _ _ _) rfl (ltS (by assumption)) ?_
  exact wa_ireturn dX7_tempIn_33 ⟨Nat.le_refl _, Nat.le_refl _, ⟨_, rfl, rfl⟩, (ri (by simp only [e2])), rfl, rfl⟩
theorem mm_valveIn_1 {n : Nat} {S : SS} {T : Int} (hn : 279 ≤ n) (hm : mr S = 268) (hV : VG T (S.1 268)) (hT : T < 2147400000) (r many : Int32) (h1 : ¬ (rk S r)) : AM yX7_valveIn cX7_valveIn 3 (some .int) [] 10 0 0 [.ref 267, .int r, .int many] n (Hp S) (PI 0 n (th S 1)) := by
  intro has
  change WA RX7 cX7_valveIn 3 [] _ _ 0 0 0 [some (.ref 267), some (.int r), some (.int many)] [] n _
  have hVr : VG T (row S) := by rw [row_net hm]; exact hV
  refine wa_aload_n dX7_valveIn_0 rfl ?_
  refine wa_aload_n dX7_valveIn_1 rfl ?_
  refine wa_iload_n dX7_valveIn_2 rfl ?_
  refine c_VI dX7_valveIn_3 (mm_isRoom (by assumption) hVr r) lk_X7_347 rfl (isO_MO _ _ _) rfl (ltS (by assumption)) ?_
  refine wa_iload_n dX7_valveIn_6 rfl ?_
  refine c_SI dX7_valveIn_7 (mm_areTicks _) lk_X7_370 rfl ?_
  refine c_VI dX7_valveIn_10 (mm_passesP (by assumption) (rk S r) (inr many 0 500)) lk_X7_352 rfl (isO_MO _ _ _) rfl (ltS (by assumption)) ?_
  rw [b2i_0 (fun z => h1 z.1), if_neg h1]
  refine wa_if_ne 18 dX7_valveIn_13 rfl (fun c13 => absurd rfl c13) (fun c13 => ?_)
  refine wa_iconst (x := 0) dX7_valveIn_16 (by decide) ?_
  exact wa_ireturn dX7_valveIn_17 ⟨Nat.le_refl _, Nat.le_refl _, ⟨_, rfl, rfl⟩, rfl, rfl, rfl⟩
theorem mm_valveIn_2 {n : Nat} {S : SS} {T : Int} (hn : 279 ≤ n) (hm : mr S = 268) (hV : VG T (S.1 268)) (hT : T < 2147400000) (r many : Int32) (h1 : rk S r) (h2 : ¬ (inr many 0 500)) : AM yX7_valveIn cX7_valveIn 3 (some .int) [] 10 0 0 [.ref 267, .int r, .int many] n (Hp S) (PI 0 n (th S 2)) := by
  intro has
  change WA RX7 cX7_valveIn 3 [] _ _ 0 0 0 [some (.ref 267), some (.int r), some (.int many)] [] n _
  have hVr : VG T (row S) := by rw [row_net hm]; exact hV
  refine wa_aload_n dX7_valveIn_0 rfl ?_
  refine wa_aload_n dX7_valveIn_1 rfl ?_
  refine wa_iload_n dX7_valveIn_2 rfl ?_
  refine c_VI dX7_valveIn_3 (mm_isRoom (by assumption) hVr r) lk_X7_347 rfl (isO_MO _ _ _) rfl (ltS (by assumption)) ?_
  refine wa_iload_n dX7_valveIn_6 rfl ?_
  refine c_SI dX7_valveIn_7 (mm_areTicks _) lk_X7_370 rfl ?_
  refine c_VI dX7_valveIn_10 (mm_passesP (by assumption) (rk S r) (inr many 0 500)) lk_X7_352 rfl (isO_MO _ _ _) rfl (ltS (by assumption)) ?_
  rw [b2i_0 (fun z => h2 z.2), if_pos h1, if_neg h2]
  refine wa_if_ne 18 dX7_valveIn_13 rfl (fun c13 => absurd rfl c13) (fun c13 => ?_)
  refine wa_iconst (x := 0) dX7_valveIn_16 (by decide) ?_
  exact wa_ireturn dX7_valveIn_17 ⟨Nat.le_refl _, Nat.le_refl _, ⟨_, rfl, rfl⟩, rfl, rfl, rfl⟩
theorem mm_valveIn_0 {n : Nat} {S : SS} {T : Int} (hn : 279 ≤ n) (hm : mr S = 268) (hV : VG T (S.1 268)) (hT : T < 2147400000) {i : Nat} (hi : i < 6) {N : Nat} (hN : N ≤ 500) (h1 : rk S (nI i)) (h2 : inr (nI N) 0 500) : AM yX7_valveIn cX7_valveIn 3 (some .int) [] 10 0 0 [.ref 267, .int (nI i), .int (nI N)] n (Hp S) (PI (of (ticksN (S.1 268) N) i 1) n (f_aside (th S 0))) := by
  intro has
  change WA RX7 cX7_valveIn 3 [] _ _ 0 0 0 [some (.ref 267), some (.int (nI i)), some (.int (nI N))] [] n _
  have hVr : VG T (row S) := by rw [row_net hm]; exact hV
  have hV1 : VG T (row (th S 0)) := VG_th hVr 0
  have e2 : row (f_aside (th S 0)) = S.1 268 := (row_aside (S := th S 0) hm).trans (th_n S 0 (by decide))
  have hV2 : VG T (row (f_aside (th S 0))) := by rw [e2]; exact hV
  refine wa_aload_n dX7_valveIn_0 rfl ?_
  refine wa_aload_n dX7_valveIn_1 rfl ?_
  refine wa_iload_n dX7_valveIn_2 rfl ?_
  refine c_VI dX7_valveIn_3 (mm_isRoom (by assumption) hVr (nI i)) lk_X7_347 rfl (isO_MO _ _ _) rfl (ltS (by assumption)) ?_
  refine wa_iload_n dX7_valveIn_6 rfl ?_
  refine c_SI dX7_valveIn_7 (mm_areTicks _) lk_X7_370 rfl ?_
  refine c_VI dX7_valveIn_10 (mm_passesP (by assumption) (rk S (nI i)) (inr (nI N) 0 500)) lk_X7_352 rfl (isO_MO _ _ _) rfl (ltS (by assumption)) ?_
  rw [b2i_1 ⟨h1, h2⟩, if_pos h1, if_pos h2]
  refine wa_if_ne 18 dX7_valveIn_13 rfl (fun c13 => ?_) (fun c13 => absurd c13 (by decide))
  refine wa_aload_n dX7_valveIn_18 rfl ?_
  refine c_VV dX7_valveIn_19 (mm_keepAside (by assumption)) lk_X7_373 rfl (isO_MO _ _ _) rfl (ltS (by assumption)) ?_
  refine wa_aload_n dX7_valveIn_22 rfl ?_
  refine wa_aload_n dX7_valveIn_23 rfl ?_
  refine wa_iload_n dX7_valveIn_24 rfl ?_
  refine wa_iconst (x := 1) dX7_valveIn_25 (by decide) ?_
  refine wa_iload_n dX7_valveIn_26 rfl ?_
  refine c_VI dX7_valveIn_27 (mm_later (w := 1) hn (by omega) hi (by decide) hV2 (by omega)) lk_X7_376 rfl (isO_MO _ _ _) rfl (ltS (by assumption)) ?_
  refine c_VI dX7_valveIn_30 (mm_layBackS (by assumption) _ (TB_md (TB_0 (th S 0)) hm _)) lk_X7_379 rfl (isO_MO _ _ _) rfl (ltS (by assumption)) ?_
  exact wa_ireturn dX7_valveIn_33 ⟨Nat.le_refl _, Nat.le_refl _, ⟨_, rfl, rfl⟩, (ri (by simp only [e2])), rfl, rfl⟩
theorem mm_lack_1 {n : Nat} {S : SS} {T : Int} (hn : 279 ≤ n) (hm : mr S = 268) (hV : VG T (S.1 268)) (hT : T < 2147400000) (r many : Int32) (h1 : ¬ (rk S r)) : AM yX7_lack cX7_lack 3 (some .int) [] 9 0 0 [.ref 267, .int r, .int many] n (Hp S) (PI 0 n (th S 1)) := by
  intro has
  change WA RX7 cX7_lack 3 [] _ _ 0 0 0 [some (.ref 267), some (.int r), some (.int many)] [] n _
  have hVr : VG T (row S) := by rw [row_net hm]; exact hV
  refine wa_aload_n dX7_lack_0 rfl ?_
  refine wa_aload_n dX7_lack_1 rfl ?_
  refine wa_iload_n dX7_lack_2 rfl ?_
  refine c_VI dX7_lack_3 (mm_isRoom (by assumption) hVr r) lk_X7_347 rfl (isO_MO _ _ _) rfl (ltS (by assumption)) ?_
  refine wa_iload_n dX7_lack_6 rfl ?_
  refine c_SI dX7_lack_7 (mm_areTicks _) lk_X7_370 rfl ?_
  refine c_VI dX7_lack_10 (mm_passesP (by assumption) (rk S r) (inr many 0 500)) lk_X7_352 rfl (isO_MO _ _ _) rfl (ltS (by assumption)) ?_
  rw [b2i_0 (fun z => h1 z.1), if_neg h1]
  refine wa_if_ne 18 dX7_lack_13 rfl (fun c13 => absurd rfl c13) (fun c13 => ?_)
  refine wa_iconst (x := 0) dX7_lack_16 (by decide) ?_
  exact wa_ireturn dX7_lack_17 ⟨Nat.le_refl _, Nat.le_refl _, ⟨_, rfl, rfl⟩, rfl, rfl, rfl⟩
theorem mm_lack_2 {n : Nat} {S : SS} {T : Int} (hn : 279 ≤ n) (hm : mr S = 268) (hV : VG T (S.1 268)) (hT : T < 2147400000) (r many : Int32) (h1 : rk S r) (h2 : ¬ (inr many 0 500)) : AM yX7_lack cX7_lack 3 (some .int) [] 9 0 0 [.ref 267, .int r, .int many] n (Hp S) (PI 0 n (th S 2)) := by
  intro has
  change WA RX7 cX7_lack 3 [] _ _ 0 0 0 [some (.ref 267), some (.int r), some (.int many)] [] n _
  have hVr : VG T (row S) := by rw [row_net hm]; exact hV
  refine wa_aload_n dX7_lack_0 rfl ?_
  refine wa_aload_n dX7_lack_1 rfl ?_
  refine wa_iload_n dX7_lack_2 rfl ?_
  refine c_VI dX7_lack_3 (mm_isRoom (by assumption) hVr r) lk_X7_347 rfl (isO_MO _ _ _) rfl (ltS (by assumption)) ?_
  refine wa_iload_n dX7_lack_6 rfl ?_
  refine c_SI dX7_lack_7 (mm_areTicks _) lk_X7_370 rfl ?_
  refine c_VI dX7_lack_10 (mm_passesP (by assumption) (rk S r) (inr many 0 500)) lk_X7_352 rfl (isO_MO _ _ _) rfl (ltS (by assumption)) ?_
  rw [b2i_0 (fun z => h2 z.2), if_pos h1, if_neg h2]
  refine wa_if_ne 18 dX7_lack_13 rfl (fun c13 => absurd rfl c13) (fun c13 => ?_)
  refine wa_iconst (x := 0) dX7_lack_16 (by decide) ?_
  exact wa_ireturn dX7_lack_17 ⟨Nat.le_refl _, Nat.le_refl _, ⟨_, rfl, rfl⟩, rfl, rfl, rfl⟩
theorem mm_lack_0 {n : Nat} {S : SS} {T : Int} (hn : 279 ≤ n) (hm : mr S = 268) (hV : VG T (S.1 268)) (hT : T < 2147400000) {i : Nat} (hi : i < 6) {N : Nat} (hN : N ≤ 500) (h1 : rk S (nI i)) (h2 : inr (nI N) 0 500) : AM yX7_lack cX7_lack 3 (some .int) [] 9 0 0 [.ref 267, .int (nI i), .int (nI N)] n (Hp S) (PI (lackN (S.1 268) i N) n (f_aside (th S 0))) := by
  intro has
  change WA RX7 cX7_lack 3 [] _ _ 0 0 0 [some (.ref 267), some (.int (nI i)), some (.int (nI N))] [] n _
  have hVr : VG T (row S) := by rw [row_net hm]; exact hV
  have hV1 : VG T (row (th S 0)) := VG_th hVr 0
  have e2 : row (f_aside (th S 0)) = S.1 268 := (row_aside (S := th S 0) hm).trans (th_n S 0 (by decide))
  have hV2 : VG T (row (f_aside (th S 0))) := by rw [e2]; exact hV
  refine wa_aload_n dX7_lack_0 rfl ?_
  refine wa_aload_n dX7_lack_1 rfl ?_
  refine wa_iload_n dX7_lack_2 rfl ?_
  refine c_VI dX7_lack_3 (mm_isRoom (by assumption) hVr (nI i)) lk_X7_347 rfl (isO_MO _ _ _) rfl (ltS (by assumption)) ?_
  refine wa_iload_n dX7_lack_6 rfl ?_
  refine c_SI dX7_lack_7 (mm_areTicks _) lk_X7_370 rfl ?_
  refine c_VI dX7_lack_10 (mm_passesP (by assumption) (rk S (nI i)) (inr (nI N) 0 500)) lk_X7_352 rfl (isO_MO _ _ _) rfl (ltS (by assumption)) ?_
  rw [b2i_1 ⟨h1, h2⟩, if_pos h1, if_pos h2]
  refine wa_if_ne 18 dX7_lack_13 rfl (fun c13 => ?_) (fun c13 => absurd c13 (by decide))
  refine wa_aload_n dX7_lack_18 rfl ?_
  refine c_VV dX7_lack_19 (mm_keepAside (by assumption)) lk_X7_373 rfl (isO_MO _ _ _) rfl (ltS (by assumption)) ?_
  refine wa_aload_n dX7_lack_22 rfl ?_
  refine wa_aload_n dX7_lack_23 rfl ?_
  refine wa_iload_n dX7_lack_24 rfl ?_
  refine wa_iload_n dX7_lack_25 rfl ?_
  refine c_VI dX7_lack_26 (mm_lackOf hn hi (by omega) hV2 (by omega)) lk_X7_382 rfl (isO_MO _ _ _) rfl (ltS (by assumption)) ?_
  refine c_VI dX7_lack_29 (mm_layBackS (by assumption) _ (TB_md (TB_0 (th S 0)) hm _)) lk_X7_379 rfl (isO_MO _ _ _) rfl (ltS (by assumption)) ?_
  exact wa_ireturn dX7_lack_32 ⟨Nat.le_refl _, Nat.le_refl _, ⟨_, rfl, rfl⟩, (ri (by simp only [e2])), rfl, rfl⟩
theorem mm_heatIn_1 {n : Nat} {S : SS} {T : Int} (hn : 279 ≤ n) (hm : mr S = 268) (hV : VG T (S.1 268)) (hT : T < 2147400000) (many : Int32) (h1 : ¬ (inr many 0 500)) : AM yX7_heatIn cX7_heatIn 3 (some .int) [] 9 0 0 [.ref 267, .int many] n (Hp S) (PI 0 n (th S 1)) := by
  intro has
  change WA RX7 cX7_heatIn 3 [] _ _ 0 0 0 [some (.ref 267), some (.int many), none] [] n _
  have hVr : VG T (row S) := by rw [row_net hm]; exact hV
  refine wa_aload_n dX7_heatIn_0 rfl ?_
  refine wa_iload_n dX7_heatIn_1 rfl ?_
  refine c_SI dX7_heatIn_2 (mm_areTicks _) lk_X7_370 rfl ?_
  refine c_VI dX7_heatIn_5 (mm_passes1 (by assumption) (inr many 0 500)) lk_X7_155 rfl (isO_MO _ _ _) rfl (ltS (by assumption)) ?_
  rw [b2i_0 (fun z => h1 z), if_neg h1]
  refine wa_if_ne 13 dX7_heatIn_8 rfl (fun c8 => absurd rfl c8) (fun c8 => ?_)
  refine wa_iconst (x := 0) dX7_heatIn_11 (by decide) ?_
  exact wa_ireturn dX7_heatIn_12 ⟨Nat.le_refl _, Nat.le_refl _, ⟨_, rfl, rfl⟩, rfl, rfl, rfl⟩
theorem mm_heatIn_0 {n : Nat} {S : SS} {T : Int} (hn : 279 ≤ n) (hm : mr S = 268) (hV : VG T (S.1 268)) (hT : T < 2147400000) {N : Nat} (hN : N ≤ 500) (h1 : inr (nI N) 0 500) : AM yX7_heatIn cX7_heatIn 3 (some .int) [] 9 0 0 [.ref 267, .int (nI N)] n (Hp S) (PI (sumN (ticksN (S.1 268) N) 10 (rn (S.1 268)) - sumN (S.1 268) 10 (rn (S.1 268))) n (f_aside (th S 0))) := by
  intro has
  change WA RX7 cX7_heatIn 3 [] _ _ 0 0 0 [some (.ref 267), some (.int (nI N)), none] [] n _
  have hVr : VG T (row S) := by rw [row_net hm]; exact hV
  have hV1 : VG T (row (th S 0)) := VG_th hVr 0
  have e2 : row (f_aside (th S 0)) = S.1 268 := (row_aside (S := th S 0) hm).trans (th_n S 0 (by decide))
  have hV2 : VG T (row (f_aside (th S 0))) := by rw [e2]; exact hV
  have hV3 : VG (T + N) (row (md (fun g => ticksN g N) (f_aside (th S 0)))) := by rw [md_row]; exact VG_ticks hV2 N (by omega)
  refine wa_aload_n dX7_heatIn_0 rfl ?_
  refine wa_iload_n dX7_heatIn_1 rfl ?_
  refine c_SI dX7_heatIn_2 (mm_areTicks _) lk_X7_370 rfl ?_
  refine c_VI dX7_heatIn_5 (mm_passes1 (by assumption) (inr (nI N) 0 500)) lk_X7_155 rfl (isO_MO _ _ _) rfl (ltS (by assumption)) ?_
  rw [b2i_1 h1, if_pos h1]
  refine wa_if_ne 13 dX7_heatIn_8 rfl (fun c8 => ?_) (fun c8 => absurd c8 (by decide))
  refine wa_aload_n dX7_heatIn_13 rfl ?_
  refine c_VV dX7_heatIn_14 (mm_keepAside (by assumption)) lk_X7_373 rfl (isO_MO _ _ _) rfl (ltS (by assumption)) ?_
  refine wa_aload_n dX7_heatIn_17 rfl ?_
  refine wa_bipush (x := 10) dX7_heatIn_18 (by decide) ?_
  refine c_VI dX7_heatIn_20 (mm_sumOf (w := 10) hn (by decide) hV2) lk_X7_385 rfl (isO_MO _ _ _) rfl (ltS (by assumption)) ?_
  refine wa_istore_n dX7_heatIn_23 rfl ?_
  refine wa_aload_n dX7_heatIn_24 rfl ?_
  refine wa_iload_n dX7_heatIn_25 rfl ?_
  refine c_VV dX7_heatIn_26 (mm_ticks hn (by omega) hV2 (by omega)) lk_X7_147 rfl (isO_MO _ _ _) rfl (ltS (by assumption)) ?_
  refine wa_aload_n dX7_heatIn_29 rfl ?_
  refine wa_aload_n dX7_heatIn_30 rfl ?_
  refine wa_bipush (x := 10) dX7_heatIn_31 (by decide) ?_
  refine c_VI dX7_heatIn_33 (mm_sumOf (w := 10) hn (by decide) hV3) lk_X7_385 rfl (isO_MO _ _ _) rfl (ltS (by assumption)) ?_
  refine wa_iload_n dX7_heatIn_36 rfl ?_
  refine wa_isub dX7_heatIn_37 ?_
  refine c_VI dX7_heatIn_38 (mm_layBackS (by assumption) _ (TB_md (TB_0 (th S 0)) hm _)) lk_X7_379 rfl (isO_MO _ _ _) rfl (ltS (by assumption)) ?_
  exact wa_ireturn dX7_heatIn_41 ⟨Nat.le_refl _, Nat.le_refl _, ⟨_, rfl, rfl⟩, (ri (by rw [md_row, e2, rn_ticks])), rfl, rfl⟩
