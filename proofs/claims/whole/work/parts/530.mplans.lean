/-! ValveRoomModel: plans and a tick. Written by program (wip/whole/gen/m530.py) but for the heads. -/
theorem md_ss (f : Nat → Int32) (S : SS) (j : Nat) (x : Int32) : ss (md (fun _ => f) S) (mr (md (fun _ => f) S)) j x = md (fun _ => upd f j x) S := by
  rw [md_mr]
  unfold md
  exact ss_su S (mr S) j f x
theorem md_self (S : SS) : md (fun _ => row S) S = S := su_self S (mr S)
theorem md_c (f : Nat → Int32) (F : (Nat → Int32) → Nat → Int32) (S : SS) : md F (md (fun _ => f) S) = md (fun _ => F f) S := md_md _ _ _
theorem md_f (F : (Nat → Int32) → Nat → Int32) (S : SS) : md (fun _ => F (row S)) S = md F S := rfl
/-- the numbers of plans and of rooms -/
def pn (g : Nat → Int32) : Nat := (g 3).toInt.toNat
def rn (g : Nat → Int32) : Nat := (g 0).toInt.toNat
def f_carry (i : Nat) (k : Int32) (g : Nat → Int32) : Nat → Int32 := ad (if k = 0 ∨ k = 1 then pt g i 5 (if k = 0 then 1 else 0) else pt g i 6 (if k = 2 then 1 else 0)) i 15 1
def f_drop (a m : Nat) (g : Nat → Int32) : Nat → Int32 := fun j => if j = 3 then g 3 - nI m else if 11 + 3 * a ≤ j ∧ j < 11 + 3 * (pn g - m) then g (j + 3 * m) else g j
theorem mm_carryOut {n i : Nat} {S : SS} (hn : 279 ≤ n) (hi : i < 6) (k : Int32) : AM yX7_carryOut cX7_carryOut 3 none [] 2 0 0 [.ref 267, .int (nI i), .int k] n (Hp S) (PV n (md (f_carry i k) S)) := by
  intro has
  change WA RX7 cX7_carryOut 3 [] _ _ 0 0 0 [some (.ref 267), some (.int (nI i)), some (.int k)] [] n _
  refine wa_iload_n dX7_carryOut_0 rfl ?_
  refine wa_if_eq 9 dX7_carryOut_1 rfl (fun c1 => ?_) (fun c1 => ?_)
  · refine wa_aload_n dX7_carryOut_9 rfl ?_
    refine wa_iload_n dX7_carryOut_10 rfl ?_
    refine wa_iconst (x := 5) dX7_carryOut_11 (by decide) ?_
    refine wa_iload_n dX7_carryOut_12 rfl ?_
    refine wa_if_ne 20 dX7_carryOut_13 rfl (fun c13 => ?_) (fun c13 => ?_)
    · refine wa_iconst (x := 0) dX7_carryOut_20 (by decide) ?_
      refine c_VV dX7_carryOut_21 (mm_put2 (w := 5) (by assumption) hi (by decide) _) lk_X7_105 rfl (isO_MO _ _ _) rfl (ltS (by assumption)) ?_
      refine wa_goto 44 dX7_carryOut_24 rfl ?_
      refine wa_aload_n dX7_carryOut_44 rfl ?_
      refine wa_iload_n dX7_carryOut_45 rfl ?_
      refine wa_iconst (x := 3) dX7_carryOut_46 (by decide) ?_
      refine c_VV dX7_carryOut_47 (mm_counts2 (w := 3) (by assumption) hi (by decide)) lk_X7_108 rfl (isO_MO _ _ _) rfl (ltS (by assumption)) ?_
      exact wa_return dX7_carryOut_50 ⟨Nat.le_refl _, Nat.le_refl _, rfl, rfl, rfl, congrArg Hp (by rw [md_md]; unfold md f_carry; simp_all; done)⟩
    · refine wa_iconst (x := 1) dX7_carryOut_16 (by decide) ?_
      refine wa_goto 21 dX7_carryOut_17 rfl ?_
      refine c_VV dX7_carryOut_21 (mm_put2 (w := 5) (by assumption) hi (by decide) _) lk_X7_105 rfl (isO_MO _ _ _) rfl (ltS (by assumption)) ?_
      refine wa_goto 44 dX7_carryOut_24 rfl ?_
      refine wa_aload_n dX7_carryOut_44 rfl ?_
      refine wa_iload_n dX7_carryOut_45 rfl ?_
      refine wa_iconst (x := 3) dX7_carryOut_46 (by decide) ?_
      refine c_VV dX7_carryOut_47 (mm_counts2 (w := 3) (by assumption) hi (by decide)) lk_X7_108 rfl (isO_MO _ _ _) rfl (ltS (by assumption)) ?_
      exact wa_return dX7_carryOut_50 ⟨Nat.le_refl _, Nat.le_refl _, rfl, rfl, rfl, congrArg Hp (by rw [md_md]; unfold md f_carry; simp_all; done)⟩
  · refine wa_iload_n dX7_carryOut_4 rfl ?_
    refine wa_iconst (x := 1) dX7_carryOut_5 (by decide) ?_
    refine wa_icmp_ne 27 dX7_carryOut_6 rfl (fun c6 => ?_) (fun c6 => ?_)
    · refine wa_aload_n dX7_carryOut_27 rfl ?_
      refine wa_iload_n dX7_carryOut_28 rfl ?_
      refine wa_bipush (x := 6) dX7_carryOut_29 (by decide) ?_
      refine wa_iload_n dX7_carryOut_31 rfl ?_
      refine wa_iconst (x := 2) dX7_carryOut_32 (by decide) ?_
      refine wa_icmp_ne 40 dX7_carryOut_33 rfl (fun c33 => ?_) (fun c33 => ?_)
      · refine wa_iconst (x := 0) dX7_carryOut_40 (by decide) ?_
        refine c_VV dX7_carryOut_41 (mm_put2 (w := 6) (by assumption) hi (by decide) _) lk_X7_105 rfl (isO_MO _ _ _) rfl (ltS (by assumption)) ?_
        refine wa_aload_n dX7_carryOut_44 rfl ?_
        refine wa_iload_n dX7_carryOut_45 rfl ?_
        refine wa_iconst (x := 3) dX7_carryOut_46 (by decide) ?_
        refine c_VV dX7_carryOut_47 (mm_counts2 (w := 3) (by assumption) hi (by decide)) lk_X7_108 rfl (isO_MO _ _ _) rfl (ltS (by assumption)) ?_
        exact wa_return dX7_carryOut_50 ⟨Nat.le_refl _, Nat.le_refl _, rfl, rfl, rfl, congrArg Hp (by rw [md_md]; unfold md f_carry; simp_all; done)⟩
      · refine wa_iconst (x := 1) dX7_carryOut_36 (by decide) ?_
        refine wa_goto 41 dX7_carryOut_37 rfl ?_
        refine c_VV dX7_carryOut_41 (mm_put2 (w := 6) (by assumption) hi (by decide) _) lk_X7_105 rfl (isO_MO _ _ _) rfl (ltS (by assumption)) ?_
        refine wa_aload_n dX7_carryOut_44 rfl ?_
        refine wa_iload_n dX7_carryOut_45 rfl ?_
        refine wa_iconst (x := 3) dX7_carryOut_46 (by decide) ?_
        refine c_VV dX7_carryOut_47 (mm_counts2 (w := 3) (by assumption) hi (by decide)) lk_X7_108 rfl (isO_MO _ _ _) rfl (ltS (by assumption)) ?_
        exact wa_return dX7_carryOut_50 ⟨Nat.le_refl _, Nat.le_refl _, rfl, rfl, rfl, congrArg Hp (by rw [md_md]; unfold md f_carry; simp_all; done)⟩
    · refine wa_aload_n dX7_carryOut_9 rfl ?_
      refine wa_iload_n dX7_carryOut_10 rfl ?_
      refine wa_iconst (x := 5) dX7_carryOut_11 (by decide) ?_
      refine wa_iload_n dX7_carryOut_12 rfl ?_
      refine wa_if_ne 20 dX7_carryOut_13 rfl (fun c13 => ?_) (fun c13 => ?_)
      · refine wa_iconst (x := 0) dX7_carryOut_20 (by decide) ?_
        refine c_VV dX7_carryOut_21 (mm_put2 (w := 5) (by assumption) hi (by decide) _) lk_X7_105 rfl (isO_MO _ _ _) rfl (ltS (by assumption)) ?_
        refine wa_goto 44 dX7_carryOut_24 rfl ?_
        refine wa_aload_n dX7_carryOut_44 rfl ?_
        refine wa_iload_n dX7_carryOut_45 rfl ?_
        refine wa_iconst (x := 3) dX7_carryOut_46 (by decide) ?_
        refine c_VV dX7_carryOut_47 (mm_counts2 (w := 3) (by assumption) hi (by decide)) lk_X7_108 rfl (isO_MO _ _ _) rfl (ltS (by assumption)) ?_
        exact wa_return dX7_carryOut_50 ⟨Nat.le_refl _, Nat.le_refl _, rfl, rfl, rfl, congrArg Hp (by rw [md_md]; unfold md f_carry; simp_all; done)⟩
      · refine wa_iconst (x := 1) dX7_carryOut_16 (by decide) ?_
        refine wa_goto 21 dX7_carryOut_17 rfl ?_
        refine c_VV dX7_carryOut_21 (mm_put2 (w := 5) (by assumption) hi (by decide) _) lk_X7_105 rfl (isO_MO _ _ _) rfl (ltS (by assumption)) ?_
        refine wa_goto 44 dX7_carryOut_24 rfl ?_
        refine wa_aload_n dX7_carryOut_44 rfl ?_
        refine wa_iload_n dX7_carryOut_45 rfl ?_
        refine wa_iconst (x := 3) dX7_carryOut_46 (by decide) ?_
        refine c_VV dX7_carryOut_47 (mm_counts2 (w := 3) (by assumption) hi (by decide)) lk_X7_108 rfl (isO_MO _ _ _) rfl (ltS (by assumption)) ?_
        exact wa_return dX7_carryOut_50 ⟨Nat.le_refl _, Nat.le_refl _, rfl, rfl, rfl, congrArg Hp (by rw [md_md]; unfold md f_carry; simp_all; done)⟩
theorem row_c (f : Nat → Int32) (S : SS) : (md (fun _ => f) S).1 (mr (md (fun _ => f) S)) = f := md_row _ S
theorem lp_drop1 {Q : ab_Q} {n a k m : Nat} {S : SS} (g : Nat → Int32) (x1 : Int32) (hn : 279 ≤ n) (hk : k + m < 20)
    (hQ : ∀ (f : Nat → Int32) (l4 : Option Value), (∀ j, f j = if 11 + 3 * a ≤ j ∧ j < 11 + 3 * k + 3 then g (j + 3 * m) else g j) → WA RX7 cX7_dropFirstPlans 5 [] (ab_rm 0 0 0) Q 0 0 59 [some (.ref 267), some (.int x1), some (.int (nI m)), some (.int (nI k)), l4] [] n (Hp (md (fun _ => f) S))) (hak : a ≤ k) :
    ∀ (r w : Nat) (f : Nat → Int32), w + r = 3 → (∀ j, f j = if 11 + 3 * a ≤ j ∧ j < 11 + 3 * k + w then g (j + 3 * m) else g j) → WA RX7 cX7_dropFirstPlans 5 [] (ab_rm 0 0 0) Q 0 0 17 [some (.ref 267), some (.int x1), some (.int (nI m)), some (.int (nI k)), some (.int (nI w))] [] n (Hp (md (fun _ => f) S)) := by
  intro r
  induction r with
  | zero =>
    intro w f hw hf
    have h3 : w = 3 := by omega
    subst h3
    refine wa_iload dX7_dropFirstPlans_17 rfl ?_
    refine wa_iconst (x := 3) dX7_dropFirstPlans_19 (by decide) ?_
    refine wa_icmp_ge 59 dX7_dropFirstPlans_20 rfl (fun c20 => ?_) (fun c20 => absurd (nI_le (Nat.le_refl 3) (by decide)) c20)
    exact hQ f _ hf
  | succ r ih =>
    intro w f hw hf
    have ew : f (11 + 3 * (k + m) + w) = g (11 + 3 * (k + m) + w) := by
      rw [hf]
      by_cases hm : m = 0
      · subst hm; split <;> rfl
      · rw [if_neg (by omega)]
    refine wa_iload dX7_dropFirstPlans_17 rfl ?_
    refine wa_iconst (x := 3) dX7_dropFirstPlans_19 (by decide) ?_
    refine wa_icmp_ge 59 dX7_dropFirstPlans_20 rfl (fun c20 => absurd c20 (nI_ge (a := w) (b := 3) (by omega) (by decide))) (fun c20 => ?_)
    refine wa_aload_n dX7_dropFirstPlans_23 rfl ?_
    refine g_row (by assumption) dX7_dropFirstPlans_24 fl_X7_24 ?_
    refine wa_bipush (x := 11) dX7_dropFirstPlans_27 (by decide) ?_
    refine wa_iconst (x := 3) dX7_dropFirstPlans_29 (by decide) ?_
    refine wa_iload_n dX7_dropFirstPlans_30 rfl ?_
    refine wa_imul dX7_dropFirstPlans_31 ?_
    refine wa_iadd dX7_dropFirstPlans_32 ?_
    refine wa_iload dX7_dropFirstPlans_33 rfl ?_
    refine wa_iadd dX7_dropFirstPlans_35 ?_
    refine wa_aload_n dX7_dropFirstPlans_36 rfl ?_
    refine g_row (by assumption) dX7_dropFirstPlans_37 fl_X7_24 ?_
    refine wa_bipush (x := 11) dX7_dropFirstPlans_40 (by decide) ?_
    refine wa_iconst (x := 3) dX7_dropFirstPlans_42 (by decide) ?_
    refine wa_iload_n dX7_dropFirstPlans_43 rfl ?_
    refine wa_iload_n dX7_dropFirstPlans_44 rfl ?_
    refine wa_iadd dX7_dropFirstPlans_45 ?_
    rw [nI_add k m]
    refine wa_imul dX7_dropFirstPlans_46 ?_
    refine wa_iadd dX7_dropFirstPlans_47 ?_
    refine wa_iload dX7_dropFirstPlans_48 rfl ?_
    refine wa_iadd dX7_dropFirstPlans_50 ?_
    refine s_iald (j := 11 + 3 * (k + m) + w) isA_mr dX7_dropFirstPlans_51 (lt_mr (by assumption)) (ix_pl (by omega) (by omega)) (by omega) ?_
    rw [row_c, ew]
    refine s_iast (j := 11 + 3 * k + w) isA_mr dX7_dropFirstPlans_52 (lt_mr (by assumption)) (ix_pl (by omega) (by omega)) (by omega) ?_
    rw [md_ss]
    refine wa_iinc (y := 1) dX7_dropFirstPlans_53 rfl (by decide) rfl ?_
    refine wa_goto 17 dX7_dropFirstPlans_56 rfl ?_
    rw [nI_1 w]
    exact ih (w + 1) _ (by omega) (fun j => by
      unfold upd
      by_cases hj : j = 11 + 3 * k + w
      · subst hj; rw [if_pos rfl, if_pos (by omega)]; congr 1; omega
      · rw [if_neg hj, hf]
        by_cases h9 : 11 + 3 * a ≤ j ∧ j < 11 + 3 * k + w
        · rw [if_pos h9, if_pos (by omega)]
        · rw [if_neg h9, if_neg (by omega)])
theorem lp_drop {Q : ab_Q} {n a m c : Nat} {S : SS} (g : Nat → Int32) (x1 : Int32) (hn : 279 ≤ n) (hc : c ≤ 20) (hg : g 3 = nI c)
    (hQ : ∀ (f : Nat → Int32), (∀ j, f j = if 11 + 3 * a ≤ j ∧ j < 11 + 3 * (c - m) then g (j + 3 * m) else g j) → Q (.inl none) 0 0 n (Hp (md (fun _ => upd f 3 (g 3 - nI m)) S))) :
    ∀ (r k : Nat) (f : Nat → Int32) (l4 : Option Value), k + m + r = c → a ≤ k → (∀ j, f j = if 11 + 3 * a ≤ j ∧ j < 11 + 3 * k then g (j + 3 * m) else g j) → WA RX7 cX7_dropFirstPlans 5 [] (ab_rm 0 0 0) Q 0 0 2 [some (.ref 267), some (.int x1), some (.int (nI m)), some (.int (nI k)), l4] [] n (Hp (md (fun _ => f) S)) := by
  intro r
  induction r with
  | zero =>
    intro k f l4 hk hak hf
    have e3 : f 3 = nI c := by rw [hf, if_neg (by omega), hg]
    refine wa_iload_n dX7_dropFirstPlans_2 rfl ?_
    refine wa_iload_n dX7_dropFirstPlans_3 rfl ?_
    refine wa_iadd dX7_dropFirstPlans_4 ?_
    rw [nI_add k m]
    refine wa_aload_n dX7_dropFirstPlans_5 rfl ?_
    refine g_row (by assumption) dX7_dropFirstPlans_6 fl_X7_24 ?_
    refine wa_iconst (x := 3) dX7_dropFirstPlans_9 (by decide) ?_
    refine s_iald (j := 3) isA_mr dX7_dropFirstPlans_10 (lt_mr (by assumption)) rfl (by decide) ?_
    rw [row_c, e3]
    refine wa_icmp_ge 65 dX7_dropFirstPlans_11 rfl (fun c11 => ?_) (fun c11 => absurd (nI_le (by omega) (by omega)) c11)
    refine wa_aload_n dX7_dropFirstPlans_65 rfl ?_
    refine g_row (by assumption) dX7_dropFirstPlans_66 fl_X7_24 ?_
    refine wa_iconst (x := 3) dX7_dropFirstPlans_69 (by decide) ?_
    refine wa_dup2 dX7_dropFirstPlans_70 rfl rfl ?_
    refine s_iald (j := 3) isA_mr dX7_dropFirstPlans_71 (lt_mr (by assumption)) rfl (by decide) ?_
    rw [row_c, e3]
    refine wa_iload_n dX7_dropFirstPlans_72 rfl ?_
    refine wa_isub dX7_dropFirstPlans_73 ?_
    refine s_iast (j := 3) isA_mr dX7_dropFirstPlans_74 (lt_mr (by assumption)) rfl (by decide) ?_
    rw [md_ss]
    rw [← hg]
    exact wa_return dX7_dropFirstPlans_75 (hQ f (fun j => by rw [hf, show c - m = k by omega]))
  | succ r ih =>
    intro k f l4 hk hak hf
    have e3 : f 3 = nI c := by rw [hf, if_neg (by omega), hg]
    refine wa_iload_n dX7_dropFirstPlans_2 rfl ?_
    refine wa_iload_n dX7_dropFirstPlans_3 rfl ?_
    refine wa_iadd dX7_dropFirstPlans_4 ?_
    rw [nI_add k m]
    refine wa_aload_n dX7_dropFirstPlans_5 rfl ?_
    refine g_row (by assumption) dX7_dropFirstPlans_6 fl_X7_24 ?_
    refine wa_iconst (x := 3) dX7_dropFirstPlans_9 (by decide) ?_
    refine s_iald (j := 3) isA_mr dX7_dropFirstPlans_10 (lt_mr (by assumption)) rfl (by decide) ?_
    rw [row_c, e3]
    refine wa_icmp_ge 65 dX7_dropFirstPlans_11 rfl (fun c11 => absurd c11 (nI_ge (a := k + m) (b := c) (by omega) (by omega))) (fun c11 => ?_)
    refine wa_iconst (x := 0) dX7_dropFirstPlans_14 (by decide) ?_
    refine wa_istore dX7_dropFirstPlans_15 rfl ?_
    refine lp_drop1 (a := a) g x1 hn (by omega) (fun f4 l5 hf4 => ?_) hak 3 0 f (by omega) (fun j => by rw [hf]; rfl)
    refine wa_iinc (y := 1) dX7_dropFirstPlans_59 rfl (by decide) rfl ?_
    refine wa_goto 2 dX7_dropFirstPlans_62 rfl ?_
    rw [nI_1 k]
    exact ih (k + 1) f4 _ (by omega) (by omega) (fun j => by rw [hf4, show 11 + 3 * (k + 1) = 11 + 3 * k + 3 by omega])
theorem mm_dropFirstPlans {n a m : Nat} {S : SS} (hn : 279 ≤ n) (hc : pn (row S) ≤ 20) (h0 : 0 ≤ (row S 3).toInt) (ham : a + m ≤ pn (row S)) : AM yX7_dropFirstPlans cX7_dropFirstPlans 5 none [] 0 0 0 [.ref 267, .int (nI a), .int (nI m)] n (Hp S) (PV n (md (f_drop a m) S)) := by
  intro has
  change WA RX7 cX7_dropFirstPlans 5 [] _ _ 0 0 0 [some (.ref 267), some (.int (nI a)), some (.int (nI m)), none, none] [] n _
  refine wa_iload_n dX7_dropFirstPlans_0 rfl ?_
  refine wa_istore_n dX7_dropFirstPlans_1 rfl ?_
  have e3 : row S 3 = nI (pn (row S)) := (nI_of_nn h0).1
  have K := lp_drop (n := n) (a := a) (m := m) (c := pn (row S)) (S := S) (row S) (nI a) hn hc e3 (Q := fun r k z n' h' => k ≤ 0 ∧ z ≤ 0 ∧ ab_rok none r ∧ PV n (md (f_drop a m) S) r n' h') (fun f hf => ⟨Nat.le_refl _, Nat.le_refl _, rfl, rfl, rfl, ?_⟩) (pn (row S) - (a + m)) a (row S) none (by omega) (Nat.le_refl _) (fun j => by rw [if_neg (by omega)])
  · rw [md_self] at K
    exact K
  · congr 1
    unfold md f_drop
    congr 1
    funext j
    show upd f 3 (row S 3 - nI m) j = _
    unfold upd
    by_cases hj : j = 3
    · rw [if_pos hj, if_pos hj]
    · rw [if_neg hj, if_neg hj, hf]
/-- the room of plan k -/
def pr (g : Nat → Int32) (k : Nat) : Nat := (g (11 + 3 * k + 1)).toInt.toNat
def f_cars (g : Nat → Int32) : Nat → Nat → Int32
  | 0 => g
  | k + 1 => f_carry (pr g k) (g (11 + 3 * k + 2)) (f_cars g k)
def du (g : Nat → Int32) : Nat → Nat → Nat
  | 0, k => k
  | r + 1, k => if g (11 + 3 * k) = g 1 then du g r (k + 1) else k
def dueN (g : Nat → Int32) : Nat := du g (pn g) 0
def goOns (g : Nat → Int32) : Nat → Nat → Int32
  | 0 => g
  | k + 1 => f_goOn k (goOns g k)
def f_time (g : Nat → Int32) : Nat → Int32 := upd g 1 (g 1 + 1)
def f_due (g : Nat → Int32) : Nat → Int32 := f_drop 0 (dueN g) (f_cars g (dueN g))
def f_tick (g : Nat → Int32) : Nat → Int32 := goOns (f_due (f_time g)) (rn g)
/-- a house's numbers are in their ranges -/
def VG (T : Int) (g : Nat → Int32) : Prop := (0 ≤ (g 1).toInt ∧ (g 1).toInt ≤ T) ∧ (0 ≤ (g 0).toInt ∧ (g 0).toInt ≤ 6) ∧ (0 ≤ (g 3).toInt ∧ (g 3).toInt ≤ 20) ∧ (∀ k, k < pn g → 0 ≤ (g (11 + 3 * k + 1)).toInt ∧ (g (11 + 3 * k + 1)).toInt < 6) ∧ ∀ i, PT (pg g i)
theorem VG_rn {T : Int} {g : Nat → Int32} (h : VG T g) : g 0 = nI (rn g) ∧ rn g ≤ 6 := ⟨(nI_of_nn h.2.1.1).1, by unfold rn; have := h.2.1; omega⟩
theorem VG_pn {T : Int} {g : Nat → Int32} (h : VG T g) : g 3 = nI (pn g) ∧ pn g ≤ 20 := ⟨(nI_of_nn h.2.2.1.1).1, by unfold pn; have := h.2.2.1; omega⟩
theorem VG_pr {T : Int} {g : Nat → Int32} (h : VG T g) {k : Nat} (hk : k < pn g) : g (11 + 3 * k + 1) = nI (pr g k) ∧ pr g k < 6 := ⟨(nI_of_nn (h.2.2.2.1 k hk).1).1, by unfold pr; have := h.2.2.2.1 k hk; omega⟩
theorem kp_carry (g : Nat → Int32) (i : Nat) (k : Int32) : kp g (f_carry i k g) := by
  unfold f_carry
  refine kp.tr (b := if k = 0 ∨ k = 1 then pt g i 5 (if k = 0 then 1 else 0) else pt g i 6 (if k = 2 then 1 else 0)) ?_ (kp_ad _ i _ (by decide))
  split
  · exact kp_pt g i _ (by decide)
  · exact kp_pt g i _ (by decide)
theorem kp_cars (g : Nat → Int32) : ∀ k, kp g (f_cars g k)
  | 0 => kp.rf
  | k + 1 => (kp_cars g k).tr (kp_carry _ _ _)
theorem kp_goOns (g : Nat → Int32) : ∀ k, kp g (goOns g k)
  | 0 => kp.rf
  | k + 1 => (kp_goOns g k).tr (kp_goOn _ _)
theorem du_le (g : Nat → Int32) : ∀ r k, k ≤ du g r k ∧ du g r k ≤ k + r
  | 0, k => ⟨Nat.le_refl _, Nat.le_refl _⟩
  | r + 1, k => by
    have h := du_le g r (k + 1)
    show k ≤ (if g (11 + 3 * k) = g 1 then du g r (k + 1) else k) ∧ (if g (11 + 3 * k) = g 1 then du g r (k + 1) else k) ≤ k + (r + 1)
    split <;> omega
theorem dueN_le (g : Nat → Int32) : dueN g ≤ pn g := by have := (du_le g (pn g) 0).2; unfold dueN; omega
theorem pg_time (g : Nat → Int32) (i : Nat) : pg (f_time g) i = pg g i := by
  funext t
  unfold pg of
  split
  · exact if_neg (by omega)
  · rfl
theorem i_add1 {x : Int32} (h1 : 0 ≤ x.toInt) (h2 : x.toInt < 2147483647) : (x + 1).toInt = x.toInt + 1 := by
  have e : (1 : Int32).toInt = 1 := by decide
  rw [i_add (by omega) (by omega), e]
theorem VG_time {T : Int} {g : Nat → Int32} (hV : VG T g) (hT : T < 2147483647) : VG (T + 1) (f_time g) := by
  have h1 := hV.1
  have e1 : (g 1 + 1).toInt = (g 1).toInt + 1 := i_add1 h1.1 (by omega)
  refine ⟨?_, hV.2.1, hV.2.2.1, fun k hk => ?_, fun i => (pg_time g i).symm ▸ hV.2.2.2.2 i⟩
  · show 0 ≤ (g 1 + 1).toInt ∧ (g 1 + 1).toInt ≤ T + 1
    omega
  · have e : f_time g (11 + 3 * k + 1) = g (11 + 3 * k + 1) := if_neg (by omega)
    rw [e]; exact hV.2.2.2.1 k hk
theorem md_tick (S : SS) : md (fun _ => goOns (f_due (f_time (row S))) (rn (row S))) S = md f_tick S := by
  unfold md f_tick
  rfl
theorem drop_hi {g : Nat → Int32} {a m j : Nat} (hp : pn g ≤ 20) (hj : 71 ≤ j) : f_drop a m g j = g j := by
  unfold f_drop
  rw [if_neg (by omega), if_neg (by omega)]
theorem drop_lo {g : Nat → Int32} {a m j : Nat} (hj : j < 11) (h3 : ¬ j = 3) : f_drop a m g j = g j := by
  unfold f_drop
  rw [if_neg h3, if_neg (by omega)]
theorem drop_pg {g : Nat → Int32} {a m : Nat} (hp : pn g ≤ 20) (i : Nat) : pg (f_drop a m g) i = pg g i := by
  funext t
  unfold pg of
  split
  · exact drop_hi hp (by omega)
  · rfl
theorem lp_rooms {Q : ab_Q} {n c : Nat} {S : SS} (g : Nat → Int32) (x1 : Int32) (hn : 279 ≤ n) (hc : c ≤ 6) (h0 : g 0 = nI c) (hP : ∀ i, PT (pg g i)) (ht : 0 ≤ (g 1).toInt) (hQ : Q (.inl none) 0 0 n (Hp (md (fun _ => goOns g c) S))) :
    ∀ (r k : Nat), k + r = c → WA RX7 cX7_tickOnce 3 [] (ab_rm 7 0 0) Q 0 0 67 [some (.ref 267), some (.int x1), some (.int (nI k))] [] n (Hp (md (fun _ => goOns g k) S)) := by
  intro r
  induction r with
  | zero =>
    intro k hk
    have hk' : k = c := by omega
    subst hk'
    have e0 : (md (fun _ => goOns g k) S).1 (mr (md (fun _ => goOns g k) S)) 0 = nI k := by rw [row_c, (kp_goOns g k).2 0 (by decide), h0]
    refine wa_iload_n dX7_tickOnce_67 rfl ?_
    refine wa_aload_n dX7_tickOnce_68 rfl ?_
    refine c_VI dX7_tickOnce_69 (mm_rooms (by assumption)) lk_X7_56 rfl (isO_MO _ _ _) rfl (ltS (by assumption)) ?_
    rw [e0]
    refine wa_icmp_ge 86 dX7_tickOnce_72 rfl (fun c72 => ?_) (fun c72 => absurd (nI_le (Nat.le_refl _) (by omega)) c72)
    exact wa_return dX7_tickOnce_86 hQ
  | succ r ih =>
    intro k hk
    have hi : k < 6 := by omega
    have e0 : (md (fun _ => goOns g k) S).1 (mr (md (fun _ => goOns g k) S)) 0 = nI c := by rw [row_c, (kp_goOns g k).2 0 (by decide), h0]
    have eP : PT (pg (row (md (fun _ => goOns g k) S)) k) := by rw [md_row, (kp_goOns g k).1]; exact hP k
    have eT : 0 ≤ (row (md (fun _ => goOns g k) S) 1).toInt := by rw [md_row, (kp_goOns g k).2 1 (by decide)]; exact ht
    refine wa_iload_n dX7_tickOnce_67 rfl ?_
    refine wa_aload_n dX7_tickOnce_68 rfl ?_
    refine c_VI dX7_tickOnce_69 (mm_rooms (by assumption)) lk_X7_56 rfl (isO_MO _ _ _) rfl (ltS (by assumption)) ?_
    rw [e0]
    refine wa_icmp_ge 86 dX7_tickOnce_72 rfl (fun c72 => absurd c72 (nI_ge (a := k) (b := c) (by omega) (by omega))) (fun c72 => ?_)
    refine wa_aload_n dX7_tickOnce_75 rfl ?_
    refine wa_iload_n dX7_tickOnce_76 rfl ?_
    refine c_VV dX7_tickOnce_77 (mm_goOn (by assumption) hi eP eT) lk_X7_141 rfl (isO_MO _ _ _) rfl (ltS (by assumption)) ?_
    rw [md_c]
    refine wa_iinc (y := 1) dX7_tickOnce_80 rfl (by decide) rfl ?_
    refine wa_goto 67 dX7_tickOnce_83 rfl ?_
    rw [nI_1 k]
    exact ih (k + 1) (by omega)
theorem lp_due {Q : ab_Q} {n M : Nat} {S : SS} {T : Int} (g : Nat → Int32) (l2 : Option Value) (hn : 279 ≤ n) (hV : VG T g) (hQ : WA RX7 cX7_tickOnce 3 [] (ab_rm 7 0 0) Q 0 0 59 [some (.ref 267), some (.int (nI M)), l2] [] n (Hp (md (fun _ => f_cars g M) S))) :
    ∀ (r k : Nat), k + r = pn g → du g r k = M → WA RX7 cX7_tickOnce 3 [] (ab_rm 7 0 0) Q 0 0 12 [some (.ref 267), some (.int (nI k)), l2] [] n (Hp (md (fun _ => f_cars g k) S)) := by
  have hp := (VG_pn hV)
  intro r
  induction r with
  | zero =>
    intro k hk hM
    have hM' : k = M := hM
    subst hM'
    have e3 : (md (fun _ => f_cars g k) S).1 (mr (md (fun _ => f_cars g k) S)) 3 = nI (pn g) := by rw [row_c, (kp_cars g k).2 3 (by decide)]; exact hp.1
    refine wa_iload_n dX7_tickOnce_12 rfl ?_
    refine wa_aload_n dX7_tickOnce_13 rfl ?_
    refine g_row (by assumption) dX7_tickOnce_14 fl_X7_24 ?_
    refine wa_iconst (x := 3) dX7_tickOnce_17 (by decide) ?_
    refine s_iald (j := 3) isA_mr dX7_tickOnce_18 (lt_mr (by assumption)) rfl (by decide) ?_
    rw [e3]
    refine wa_icmp_ge 59 dX7_tickOnce_19 rfl (fun c19 => ?_) (fun c19 => absurd (nI_le (by omega) (by omega)) c19)
    exact hQ
  | succ r ih =>
    intro k hk hM
    have hk1 : k < pn g := by omega
    have hk2 : k < 20 := by omega
    have e : ∀ j, j < 71 → (md (fun _ => f_cars g k) S).1 (mr (md (fun _ => f_cars g k) S)) j = g j := fun j hj => by rw [row_c, (kp_cars g k).2 j hj]
    have e3 := e 3 (by decide)
    rw [hp.1] at e3
    have er := (e (11 + 3 * k + 1) (by omega)).trans (VG_pr hV hk1).1
    have hM2 : (if g (11 + 3 * k) = g 1 then du g r (k + 1) else k) = M := hM
    refine wa_iload_n dX7_tickOnce_12 rfl ?_
    refine wa_aload_n dX7_tickOnce_13 rfl ?_
    refine g_row (by assumption) dX7_tickOnce_14 fl_X7_24 ?_
    refine wa_iconst (x := 3) dX7_tickOnce_17 (by decide) ?_
    refine s_iald (j := 3) isA_mr dX7_tickOnce_18 (lt_mr (by assumption)) rfl (by decide) ?_
    rw [e3]
    refine wa_icmp_ge 59 dX7_tickOnce_19 rfl (fun c19 => absurd c19 (nI_ge (a := k) (b := pn g) (by omega) (by omega))) (fun c19 => ?_)
    refine wa_aload_n dX7_tickOnce_22 rfl ?_
    refine wa_iload_n dX7_tickOnce_23 rfl ?_
    refine wa_iconst (x := 0) dX7_tickOnce_24 (by decide) ?_
    refine c_VI dX7_tickOnce_25 (mm_ofPlan (w := 0) (by assumption) hk2 (by decide)) lk_X7_132 rfl (isO_MO _ _ _) rfl (ltS (by assumption)) ?_
    rw [e (11 + 3 * k + 0) (by omega)]
    refine wa_aload_n dX7_tickOnce_28 rfl ?_
    refine g_row (by assumption) dX7_tickOnce_29 fl_X7_24 ?_
    refine wa_iconst (x := 1) dX7_tickOnce_32 (by decide) ?_
    refine s_iald (j := 1) isA_mr dX7_tickOnce_33 (lt_mr (by assumption)) rfl (by decide) ?_
    rw [e 1 (by decide)]
    refine wa_icmp_ne 59 dX7_tickOnce_34 rfl (fun c34 => ?_) (fun c34 => ?_)
    · rw [if_neg (show ¬ g (11 + 3 * k) = g 1 from c34)] at hM2
      subst hM2
      exact hQ
    · refine wa_aload_n dX7_tickOnce_37 rfl ?_
      refine wa_aload_n dX7_tickOnce_38 rfl ?_
      refine wa_iload_n dX7_tickOnce_39 rfl ?_
      refine wa_iconst (x := 1) dX7_tickOnce_40 (by decide) ?_
      refine c_VI dX7_tickOnce_41 (mm_ofPlan (w := 1) (by assumption) hk2 (by decide)) lk_X7_132 rfl (isO_MO _ _ _) rfl (ltS (by assumption)) ?_
      rw [er]
      refine wa_aload_n dX7_tickOnce_44 rfl ?_
      refine wa_iload_n dX7_tickOnce_45 rfl ?_
      refine wa_iconst (x := 2) dX7_tickOnce_46 (by decide) ?_
      refine c_VI dX7_tickOnce_47 (mm_ofPlan (w := 2) (by assumption) hk2 (by decide)) lk_X7_132 rfl (isO_MO _ _ _) rfl (ltS (by assumption)) ?_
      rw [e (11 + 3 * k + 2) (by omega)]
      refine c_VV dX7_tickOnce_50 (mm_carryOut (by assumption) (VG_pr hV hk1).2 _) lk_X7_135 rfl (isO_MO _ _ _) rfl (ltS (by assumption)) ?_
      rw [md_c]
      refine wa_iinc (y := 1) dX7_tickOnce_53 rfl (by decide) rfl ?_
      refine wa_goto 12 dX7_tickOnce_56 rfl ?_
      rw [nI_1 k]
      exact ih (k + 1) (by omega) ((if_pos (show g (11 + 3 * k) = g 1 from c34)).symm.trans hM2)
theorem mm_tickOnce {n : Nat} {S : SS} {T : Int} (hn : 279 ≤ n) (hV : VG T (row S)) (hT : T < 2147483647) : AM yX7_tickOnce cX7_tickOnce 3 none [] 7 0 0 [.ref 267] n (Hp S) (PV n (md f_tick S)) := by
  intro has
  change WA RX7 cX7_tickOnce 3 [] _ _ 0 0 0 [some (.ref 267), none, none] [] n _
  have hV2 := VG_time hV hT
  have hp := (VG_pn hV2)
  have hd := dueN_le (f_time (row S))
  have kc := kp_cars (f_time (row S)) (dueN (f_time (row S)))
  have e3 : f_cars (f_time (row S)) (dueN (f_time (row S))) 3 = f_time (row S) 3 := kc.2 3 (by decide)
  have ep : pn (f_cars (f_time (row S)) (dueN (f_time (row S)))) = pn (f_time (row S)) := congrArg (fun x : Int32 => x.toInt.toNat) e3
  refine wa_aload_n dX7_tickOnce_0 rfl ?_
  refine g_row (by assumption) dX7_tickOnce_1 fl_X7_24 ?_
  refine wa_iconst (x := 1) dX7_tickOnce_4 (by decide) ?_
  refine wa_dup2 dX7_tickOnce_5 rfl rfl ?_
  refine s_iald (j := 1) isA_mr dX7_tickOnce_6 (lt_mr (by assumption)) rfl (by decide) ?_
  refine wa_iconst (x := 1) dX7_tickOnce_7 (by decide) ?_
  refine wa_iadd dX7_tickOnce_8 ?_
  refine s_iast (j := 1) isA_mr dX7_tickOnce_9 (lt_mr (by assumption)) rfl (by decide) ?_
  show WA _ _ _ _ _ _ _ _ _ _ _ _ (Hp (md (fun _ => f_time (row S)) S))
  refine wa_iconst (x := 0) dX7_tickOnce_10 (by decide) ?_
  refine wa_istore_n dX7_tickOnce_11 rfl ?_
  refine lp_due (M := dueN (f_time (row S))) (f_time (row S)) none hn hV2 ?_ (pn (f_time (row S))) 0 (Nat.zero_add _) rfl
  refine wa_aload_n dX7_tickOnce_59 rfl ?_
  refine wa_iconst (x := 0) dX7_tickOnce_60 (by decide) ?_
  refine wa_iload_n dX7_tickOnce_61 rfl ?_
  refine c_VV dX7_tickOnce_62 (mm_dropFirstPlans (a := 0) (m := dueN (f_time (row S))) (by assumption) (by rw [md_row, ep]; exact hp.2) (by rw [md_row, e3]; exact hV2.2.2.1.1) (by rw [md_row, ep]; omega)) lk_X7_138 rfl (isO_MO _ _ _) rfl (ltS (by assumption)) ?_
  rw [md_c]
  refine wa_iconst (x := 0) dX7_tickOnce_65 (by decide) ?_
  refine wa_istore_n dX7_tickOnce_66 rfl ?_
  refine lp_rooms (c := rn (row S)) (f_due (f_time (row S))) _ hn (VG_rn hV).2 ?_ ?_ ?_ ⟨Nat.le_refl _, Nat.le_refl _, rfl, rfl, rfl, congrArg Hp (md_tick S)⟩ (rn (row S)) 0 (Nat.zero_add _)
  · exact ((drop_lo (by decide) (by decide)).trans (kc.2 0 (by decide))).trans (VG_rn hV).1
  · intro i
    have := drop_pg (a := 0) (m := dueN (f_time (row S))) (g := f_cars (f_time (row S)) (dueN (f_time (row S)))) (by rw [ep]; exact hp.2) i
    show PT (pg (f_drop 0 (dueN (f_time (row S))) (f_cars (f_time (row S)) (dueN (f_time (row S))))) i)
    rw [this, kc.1]
    exact hV2.2.2.2.2 i
  · have := (drop_lo (a := 0) (m := dueN (f_time (row S))) (g := f_cars (f_time (row S)) (dueN (f_time (row S)))) (j := 1) (by decide) (by decide)).trans (kc.2 1 (by decide))
    show 0 ≤ (f_drop 0 (dueN (f_time (row S))) (f_cars (f_time (row S)) (dueN (f_time (row S)))) 1).toInt
    rw [this]
    exact hV2.1.1
