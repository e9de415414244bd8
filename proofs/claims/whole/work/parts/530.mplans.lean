/-! ValveRoomModel: plans and a tick. Written by program (wip/whole/gen/m530.py) but for the heads. -/
theorem md_ss (f : Nat → Int32) (S : SS) (j : Nat) (x : Int32) : ss (md (fun _ => f) S) (mr (md (fun _ => f) S)) j x = md (fun _ => upd f j x) S := by
  rw [md_mr]
  unfold md
  exact ss_su S (mr S) j f x
theorem md_self (S : SS) : md (fun _ => row S) S = S := su_self S (mr S)
theorem md_c (f : Nat → Int32) (F : (Nat → Int32) → Nat → Int32) (S : SS) : md F (md (fun _ => f) S) = md (fun _ => F f) S := md_md _ _ _
theorem md_f (F : (Nat → Int32) → Nat → Int32) (S : SS) : md (fun _ => F (row S)) S = md F S := rfl
/-- the numbers of plans and of rooms -/
def pn (g : Nat → Int32) : Nat := (g 3).toInt.toNat
def rn (g : Nat → Int32) : Nat := (g 0).toInt.toNat
def f_carry (i : Nat) (k : Int32) (g : Nat → Int32) : Nat → Int32 := ad (if k = 0 ∨ k = 1 then pt g i 5 (if k = 0 then 1 else 0) else pt g i 6 (if k = 2 then 1 else 0)) i 15 1
def f_drop (a m : Nat) (g : Nat → Int32) : Nat → Int32 := fun j => if j = 3 then g 3 - nI m else if 11 + 3 * a ≤ j ∧ j < 11 + 3 * (pn g - m) then g (j + 3 * m) else g j
theorem mm_carryOut {n i : Nat} {S : SS} (hn : 279 ≤ n) (hi : i < 6) (k : Int32) : AM yX7_carryOut cX7_carryOut 3 none [] 2 0 0 [.ref 267, .int (nI i), .int k] n (Hp S) (PV n (md (f_carry i k) S)) := by
  intro has
  change WA RX7 cX7_carryOut 3 [] _ _ 0 0 0 [some (.ref 267), some (.int (nI i)), some (.int k)] [] n _
  refine wa_iload_n dX7_carryOut_0 rfl ?_
  refine wa_if_eq 9 dX7_carryOut_1 rfl (fun c1 => ?_) (fun c1 => ?_)
  · refine wa_aload_n dX7_carryOut_9 rfl ?_
    refine wa_iload_n dX7_carryOut_10 rfl ?_
    refine wa_iconst (x := 5) dX7_carryOut_11 (by decide) ?_
    refine wa_iload_n dX7_carryOut_12 rfl ?_
    refine wa_if_ne 20 dX7_carryOut_13 rfl (fun c13 => ?_) (fun c13 => ?_)
    · refine wa_iconst (x := 0) dX7_carryOut_20 (by decide) ?_
      refine c_VV dX7_carryOut_21 (mm_put2 (w := 5) (by assumption) hi (by decide) _) lk_X7_105 rfl (isO_MO _ _ _) rfl (ltS (by assumption)) ?_
      refine wa_goto 44 dX7_carryOut_24 rfl ?_
      refine wa_aload_n dX7_carryOut_44 rfl ?_
      refine wa_iload_n dX7_carryOut_45 rfl ?_
      refine wa_iconst (x := 3) dX7_carryOut_46 (by decide) ?_
      refine c_VV dX7_carryOut_47 (mm_counts2 (w := 3) (by assumption) hi (by decide)) lk_X7_108 rfl (isO_MO _ _ _) rfl (ltS (by assumption)) ?_
      exact wa_return dX7_carryOut_50 ⟨Nat.le_refl _, Nat.le_refl _, rfl, rfl, rfl, congrArg Hp (by rw [md_md]; unfold md f_carry; simp_all; done)⟩
    · refine wa_iconst (x := 1) dX7_carryOut_16 (by decide) ?_
      refine wa_goto 21 dX7_carryOut_17 rfl ?_
      refine c_VV dX7_carryOut_21 (mm_put2 (w := 5) (by assumption) hi (by decide) _) lk_X7_105 rfl (isO_MO _ _ _) rfl (ltS (by assumption)) ?_
      refine wa_goto 44 dX7_carryOut_24 rfl ?_
      refine wa_aload_n dX7_carryOut_44 rfl ?_
      refine wa_iload_n dX7_carryOut_45 rfl ?_
      refine wa_iconst (x := 3) dX7_carryOut_46 (by decide) ?_
      refine c_VV dX7_carryOut_47 (mm_counts2 (w := 3) (by assumption) hi (by decide)) lk_X7_108 rfl (isO_MO _ _ _) rfl (ltS (by assumption)) ?_
      exact wa_return dX7_carryOut_50 ⟨Nat.le_refl _, Nat.le_refl _, rfl, rfl, rfl, congrArg Hp (by rw [md_md]; unfold md f_carry; simp_all; done)⟩
  · refine wa_iload_n dX7_carryOut_4 rfl ?_
    refine wa_iconst (x := 1) dX7_carryOut_5 (by decide) ?_
    refine wa_icmp_ne 27 dX7_carryOut_6 rfl (fun c6 => ?_) (fun c6 => ?_)
    · refine wa_aload_n dX7_carryOut_27 rfl ?_
      refine wa_iload_n dX7_carryOut_28 rfl ?_
      refine wa_bipush (x := 6) dX7_carryOut_29 (by decide) ?_
      refine wa_iload_n dX7_carryOut_31 rfl ?_
      refine wa_iconst (x := 2) dX7_carryOut_32 (by decide) ?_
      refine wa_icmp_ne 40 dX7_carryOut_33 rfl (fun c33 => ?_) (fun c33 => ?_)
      · refine wa_iconst (x := 0) dX7_carryOut_40 (by decide) ?_
        refine c_VV dX7_carryOut_41 (mm_put2 (w := 6) (by assumption) hi (by decide) _) lk_X7_105 rfl (isO_MO _ _ _) rfl (ltS (by assumption)) ?_
        refine wa_aload_n dX7_carryOut_44 rfl ?_
        refine wa_iload_n dX7_carryOut_45 rfl ?_
        refine wa_iconst (x := 3) dX7_carryOut_46 (by decide) ?_
        refine c_VV dX7_carryOut_47 (mm_counts2 (w := 3) (by assumption) hi (by decide)) lk_X7_108 rfl (isO_MO _ _ _) rfl (ltS (by assumption)) ?_
        exact wa_return dX7_carryOut_50 ⟨Nat.le_refl _, Nat.le_refl _, rfl, rfl, rfl, congrArg Hp (by rw [md_md]; unfold md f_carry; simp_all; done)⟩
      · refine wa_iconst (x := 1) dX7_carryOut_36 (by decide) ?_
        refine wa_goto 41 dX7_carryOut_37 rfl ?_
        refine c_VV dX7_carryOut_41 (mm_put2 (w := 6) (by assumption) hi (by decide) _) lk_X7_105 rfl (isO_MO _ _ _) rfl (ltS (by assumption)) ?_
        refine wa_aload_n dX7_carryOut_44 rfl ?_
        refine wa_iload_n dX7_carryOut_45 rfl ?_
        refine wa_iconst (x := 3) dX7_carryOut_46 (by decide) ?_
        refine c_VV dX7_carryOut_47 (mm_counts2 (w := 3) (by assumption) hi (by decide)) lk_X7_108 rfl (isO_MO _ _ _) rfl (ltS (by assumption)) ?_
        exact wa_return dX7_carryOut_50 ⟨Nat.le_refl _, Nat.le_refl _, rfl, rfl, rfl, congrArg Hp (by rw [md_md]; unfold md f_carry; simp_all; done)⟩
    · refine wa_aload_n dX7_carryOut_9 rfl ?_
      refine wa_iload_n dX7_carryOut_10 rfl ?_
      refine wa_iconst (x := 5) dX7_carryOut_11 (by decide) ?_
      refine wa_iload_n dX7_carryOut_12 rfl ?_
      refine wa_if_ne 20 dX7_carryOut_13 rfl (fun c13 => ?_) (fun c13 => ?_)
      · refine wa_iconst (x := 0) dX7_carryOut_20 (by decide) ?_
        refine c_VV dX7_carryOut_21 (mm_put2 (w := 5) (by assumption) hi (by decide) _) lk_X7_105 rfl (isO_MO _ _ _) rfl (ltS (by assumption)) ?_
        refine wa_goto 44 dX7_carryOut_24 rfl ?_
        refine wa_aload_n dX7_carryOut_44 rfl ?_
        refine wa_iload_n dX7_carryOut_45 rfl ?_
        refine wa_iconst (x := 3) dX7_carryOut_46 (by decide) ?_
        refine c_VV dX7_carryOut_47 (mm_counts2 (w := 3) (by assumption) hi (by decide)) lk_X7_108 rfl (isO_MO _ _ _) rfl (ltS (by assumption)) ?_
        exact wa_return dX7_carryOut_50 ⟨Nat.le_refl _, Nat.le_refl _, rfl, rfl, rfl, congrArg Hp (by rw [md_md]; unfold md f_carry; simp_all; done)⟩
      · refine wa_iconst (x := 1) dX7_carryOut_16 (by decide) ?_
        refine wa_goto 21 dX7_carryOut_17 rfl ?_
        refine c_VV dX7_carryOut_21 (mm_put2 (w := 5) (by assumption) hi (by decide) _) lk_X7_105 rfl (isO_MO _ _ _) rfl (ltS (by assumption)) ?_
        refine wa_goto 44 dX7_carryOut_24 rfl ?_
        refine wa_aload_n dX7_carryOut_44 rfl ?_
        refine wa_iload_n dX7_carryOut_45 rfl ?_
        refine wa_iconst (x := 3) dX7_carryOut_46 (by decide) ?_
        refine c_VV dX7_carryOut_47 (mm_counts2 (w := 3) (by assumption) hi (by decide)) lk_X7_108 rfl (isO_MO _ _ _) rfl (ltS (by assumption)) ?_
        exact wa_return dX7_carryOut_50 ⟨Nat.le_refl _, Nat.le_refl _, rfl, rfl, rfl, congrArg Hp (by rw [md_md]; unfold md f_carry; simp_all; done)⟩
theorem row_c (f : Nat → Int32) (S : SS) : (md (fun _ => f) S).1 (mr (md (fun _ => f) S)) = f := md_row _ S
theorem lp_drop1 {Q : ab_Q} {n a k m : Nat} {S : SS} (g : Nat → Int32) (x1 : Int32) (hn : 279 ≤ n) (hk : k + m < 20)
    (hQ : ∀ (f : Nat → Int32) (l4 : Option Value), (∀ j, f j = if 11 + 3 * a ≤ j ∧ j < 11 + 3 * k + 3 then g (j + 3 * m) else g j) → WA RX7 cX7_dropFirstPlans 5 [] (ab_rm 0 0 0) Q 0 0 59 [some (.ref 267), some (.int x1), some (.int (nI m)), some (.int (nI k)), l4] [] n (Hp (md (fun _ => f) S))) (hak : a ≤ k) :
    ∀ (r w : Nat) (f : Nat → Int32), w + r = 3 → (∀ j, f j = if 11 + 3 * a ≤ j ∧ j < 11 + 3 * k + w then g (j + 3 * m) else g j) → WA RX7 cX7_dropFirstPlans 5 [] (ab_rm 0 0 0) Q 0 0 17 [some (.ref 267), some (.int x1), some (.int (nI m)), some (.int (nI k)), some (.int (nI w))] [] n (Hp (md (fun _ => f) S)) := by
  intro r
  induction r with
  | zero =>
    intro w f hw hf
    have h3 : w = 3 := by omega
    subst h3
    refine wa_iload dX7_dropFirstPlans_17 rfl ?_
    refine wa_iconst (x := 3) dX7_dropFirstPlans_19 (by decide) ?_
    refine wa_icmp_ge 59 dX7_dropFirstPlans_20 rfl (fun c20 => ?_) (fun c20 => absurd (nI_le (Nat.le_refl 3) (by decide)) c20)
    exact hQ f _ hf
  | succ r ih =>
    intro w f hw hf
    have ew : f (11 + 3 * (k + m) + w) = g (11 + 3 * (k + m) + w) := by
      rw [hf]
      by_cases hm : m = 0
      · subst hm; split <;> rfl
      · rw [if_neg (by omega)]
    refine wa_iload dX7_dropFirstPlans_17 rfl ?_
    refine wa_iconst (x := 3) dX7_dropFirstPlans_19 (by decide) ?_
    refine wa_icmp_ge 59 dX7_dropFirstPlans_20 rfl (fun c20 => absurd c20 (nI_ge (a := w) (b := 3) (by omega) (by decide))) (fun c20 => ?_)
    refine wa_aload_n dX7_dropFirstPlans_23 rfl ?_
    refine g_row (by assumption) dX7_dropFirstPlans_24 fl_X7_24 ?_
    refine wa_bipush (x := 11) dX7_dropFirstPlans_27 (by decide) ?_
    refine wa_iconst (x := 3) dX7_dropFirstPlans_29 (by decide) ?_
    refine wa_iload_n dX7_dropFirstPlans_30 rfl ?_
    refine wa_imul dX7_dropFirstPlans_31 ?_
    refine wa_iadd dX7_dropFirstPlans_32 ?_
    refine wa_iload dX7_dropFirstPlans_33 rfl ?_
    refine wa_iadd dX7_dropFirstPlans_35 ?_
    refine wa_aload_n dX7_dropFirstPlans_36 rfl ?_
    refine g_row (by assumption) dX7_dropFirstPlans_37 fl_X7_24 ?_
    refine wa_bipush (x := 11) dX7_dropFirstPlans_40 (by decide) ?_
    refine wa_iconst (x := 3) dX7_dropFirstPlans_42 (by decide) ?_
    refine wa_iload_n dX7_dropFirstPlans_43 rfl ?_
    refine wa_iload_n dX7_dropFirstPlans_44 rfl ?_
    refine wa_iadd dX7_dropFirstPlans_45 ?_
    rw [nI_add k m]
    refine wa_imul dX7_dropFirstPlans_46 ?_
    refine wa_iadd dX7_dropFirstPlans_47 ?_
    refine wa_iload dX7_dropFirstPlans_48 rfl ?_
    refine wa_iadd dX7_dropFirstPlans_50 ?_
    refine s_iald (j := 11 + 3 * (k + m) + w) isA_mr dX7_dropFirstPlans_51 (lt_mr (by assumption)) (ix_pl (by omega) (by omega)) (by omega) ?_
    rw [row_c, ew]
    refine s_iast (j := 11 + 3 * k + w) isA_mr dX7_dropFirstPlans_52 (lt_mr (by assumption)) (ix_pl (by omega) (by omega)) (by omega) ?_
    rw [md_ss]
    refine wa_iinc (y := 1) dX7_dropFirstPlans_53 rfl (by decide) rfl ?_
    refine wa_goto 17 dX7_dropFirstPlans_56 rfl ?_
    rw [nI_1 w]
    exact ih (w + 1) _ (by omega) (fun j => by
      unfold upd
      by_cases hj : j = 11 + 3 * k + w
      · subst hj; rw [if_pos rfl, if_pos (by omega)]; congr 1; omega
      · rw [if_neg hj, hf]
        by_cases h9 : 11 + 3 * a ≤ j ∧ j < 11 + 3 * k + w
        · rw [if_pos h9, if_pos (by omega)]
        · rw [if_neg h9, if_neg (by omega)])
theorem lp_drop {Q : ab_Q} {n a m c : Nat} {S : SS} (g : Nat → Int32) (x1 : Int32) (hn : 279 ≤ n) (hc : c ≤ 20) (hg : g 3 = nI c)
    (hQ : ∀ (f : Nat → Int32), (∀ j, f j = if 11 + 3 * a ≤ j ∧ j < 11 + 3 * (c - m) then g (j + 3 * m) else g j) → Q (.inl none) 0 0 n (Hp (md (fun _ => upd f 3 (g 3 - nI m)) S))) :
    ∀ (r k : Nat) (f : Nat → Int32) (l4 : Option Value), k + m + r = c → a ≤ k → (∀ j, f j = if 11 + 3 * a ≤ j ∧ j < 11 + 3 * k then g (j + 3 * m) else g j) → WA RX7 cX7_dropFirstPlans 5 [] (ab_rm 0 0 0) Q 0 0 2 [some (.ref 267), some (.int x1), some (.int (nI m)), some (.int (nI k)), l4] [] n (Hp (md (fun _ => f) S)) := by
  intro r
  induction r with
  | zero =>
    intro k f l4 hk hak hf
    have e3 : f 3 = nI c := by rw [hf, if_neg (by omega), hg]
    refine wa_iload_n dX7_dropFirstPlans_2 rfl ?_
    refine wa_iload_n dX7_dropFirstPlans_3 rfl ?_
    refine wa_iadd dX7_dropFirstPlans_4 ?_
    rw [nI_add k m]
    refine wa_aload_n dX7_dropFirstPlans_5 rfl ?_
    refine g_row (by assumption) dX7_dropFirstPlans_6 fl_X7_24 ?_
    refine wa_iconst (x := 3) dX7_dropFirstPlans_9 (by decide) ?_
    refine s_iald (j := 3) isA_mr dX7_dropFirstPlans_10 (lt_mr (by assumption)) rfl (by decide) ?_
    rw [row_c, e3]
    refine wa_icmp_ge 65 dX7_dropFirstPlans_11 rfl (fun c11 => ?_) (fun c11 => absurd (nI_le (by omega) (by omega)) c11)
    refine wa_aload_n dX7_dropFirstPlans_65 rfl ?_
    refine g_row (by assumption) dX7_dropFirstPlans_66 fl_X7_24 ?_
    refine wa_iconst (x := 3) dX7_dropFirstPlans_69 (by decide) ?_
    refine wa_dup2 dX7_dropFirstPlans_70 rfl rfl ?_
    refine s_iald (j := 3) isA_mr dX7_dropFirstPlans_71 (lt_mr (by assumption)) rfl (by decide) ?_
    rw [row_c, e3]
    refine wa_iload_n dX7_dropFirstPlans_72 rfl ?_
    refine wa_isub dX7_dropFirstPlans_73 ?_
    refine s_iast (j := 3) isA_mr dX7_dropFirstPlans_74 (lt_mr (by assumption)) rfl (by decide) ?_
    rw [md_ss]
    rw [← hg]
    exact wa_return dX7_dropFirstPlans_75 (hQ f (fun j => by rw [hf, show c - m = k by omega]))
  | succ r ih =>
    intro k f l4 hk hak hf
    have e3 : f 3 = nI c := by rw [hf, if_neg (by omega), hg]
    refine wa_iload_n dX7_dropFirstPlans_2 rfl ?_
    refine wa_iload_n dX7_dropFirstPlans_3 rfl ?_
    refine wa_iadd dX7_dropFirstPlans_4 ?_
    rw [nI_add k m]
    refine wa_aload_n dX7_dropFirstPlans_5 rfl ?_
    refine g_row (by assumption) dX7_dropFirstPlans_6 fl_X7_24 ?_
    refine wa_iconst (x := 3) dX7_dropFirstPlans_9 (by decide) ?_
    refine s_iald (j := 3) isA_mr dX7_dropFirstPlans_10 (lt_mr (by assumption)) rfl (by decide) ?_
    rw [row_c, e3]
    refine wa_icmp_ge 65 dX7_dropFirstPlans_11 rfl (fun c11 => absurd c11 (nI_ge (a := k + m) (b := c) (by omega) (by omega))) (fun c11 => ?_)
    refine wa_iconst (x := 0) dX7_dropFirstPlans_14 (by decide) ?_
    refine wa_istore dX7_dropFirstPlans_15 rfl ?_
    refine lp_drop1 (a := a) g x1 hn (by omega) (fun f4 l5 hf4 => ?_) hak 3 0 f (by omega) (fun j => by rw [hf]; rfl)
    refine wa_iinc (y := 1) dX7_dropFirstPlans_59 rfl (by decide) rfl ?_
    refine wa_goto 2 dX7_dropFirstPlans_62 rfl ?_
    rw [nI_1 k]
    exact ih (k + 1) f4 _ (by omega) (by omega) (fun j => by rw [hf4, show 11 + 3 * (k + 1) = 11 + 3 * k + 3 by omega])
theorem mm_dropFirstPlans {n a m : Nat} {S : SS} (hn : 279 ≤ n) (hc : pn (row S) ≤ 20) (h0 : 0 ≤ (row S 3).toInt) (ham : a + m ≤ pn (row S)) : AM yX7_dropFirstPlans cX7_dropFirstPlans 5 none [] 0 0 0 [.ref 267, .int (nI a), .int (nI m)] n (Hp S) (PV n (md (f_drop a m) S)) := by
  intro has
  change WA RX7 cX7_dropFirstPlans 5 [] _ _ 0 0 0 [some (.ref 267), some (.int (nI a)), some (.int (nI m)), none, none] [] n _
  refine wa_iload_n dX7_dropFirstPlans_0 rfl ?_
  refine wa_istore_n dX7_dropFirstPlans_1 rfl ?_
  have e3 : row S 3 = nI (pn (row S)) := (nI_of_nn h0).1
  have K := lp_drop (n := n) (a := a) (m := m) (c := pn (row S)) (S := S) (row S) (nI a) hn hc e3 (Q := fun r k z n' h' => k ≤ 0 ∧ z ≤ 0 ∧ ab_rok none r ∧ PV n (md (f_drop a m) S) r n' h') (fun f hf => ⟨Nat.le_refl _, Nat.le_refl _, rfl, rfl, rfl, ?_⟩) (pn (row S) - (a + m)) a (row S) none (by omega) (Nat.le_refl _) (fun j => by rw [if_neg (by omega)])
  · rw [md_self] at K
    exact K
  · congr 1
    unfold md f_drop
    congr 1
    funext j
    unfold upd
    by_cases hj : j = 3
    · rw [if_pos hj, if_pos hj]
    · rw [if_neg hj, if_neg hj, hf]
