/-! ValveRoomModel: a plan more; slots, undo. Written by program (wip/whole/gen/m592.py) but for the heads. -/
/-- where a plan of this time comes to stand among the first k -/
def ipos (g : Nat → Int32) (t : Int32) : Nat → Nat
  | 0 => 0
  | k + 1 => if t < g (11 + 3 * k) then ipos g t k else k + 1
theorem ipos_le (g : Nat → Int32) (t : Int32) : ∀ k, ipos g t k ≤ k
  | 0 => Nat.le_refl _
  | k + 1 => by
    have := ipos_le g t k
    show (if t < g (11 + 3 * k) then ipos g t k else k + 1) ≤ k + 1
    split <;> omega
def f_ins (K : Nat) (t r kk : Int32) (g : Nat → Int32) : Nat → Int32 := fun j => if j = 3 then g 3 + 1 else if j = 11 + 3 * K + 2 then kk else if j = 11 + 3 * K + 1 then r else if j = 11 + 3 * K + 0 then t else if 11 + 3 * K + 3 ≤ j ∧ j < 11 + 3 * pn g + 3 then g (j - 3) else g j
def f_plan (t r kk : Int32) (g : Nat → Int32) : Nat → Int32 := f_ins (ipos g t (pn g)) t r kk g
/-- the plans from k on, one place up -/
def shp (g : Nat → Int32) (c k : Nat) : Nat → Int32 := fun j => if 11 + 3 * k + 3 ≤ j ∧ j < 11 + 3 * c + 3 then g (j - 3) else g j
theorem shp_c (g : Nat → Int32) (c : Nat) : shp g c c = g := by
  funext j
  exact if_neg (by omega)
/-- the same, w numbers of the next one moved -/
def shw (g : Nat → Int32) (c k w : Nat) : Nat → Int32 := fun j => if (11 + 3 * (k + 1) ≤ j ∧ j < 11 + 3 * (k + 1) + w) ∨ (11 + 3 * (k + 1) + 3 ≤ j ∧ j < 11 + 3 * c + 3) then g (j - 3) else g j
theorem shw_0 (g : Nat → Int32) (c k : Nat) : shw g c k 0 = shp g c (k + 1) := by
  funext j
  unfold shw shp
  by_cases h : 11 + 3 * (k + 1) + 3 ≤ j ∧ j < 11 + 3 * c + 3
  · rw [if_pos (Or.inr h), if_pos h]
  · rw [if_neg (by omega), if_neg h]
theorem shw_3 (g : Nat → Int32) {c k : Nat} (hk : k < c) : shw g c k 3 = shp g c k := by
  funext j
  unfold shw shp
  by_cases h : 11 + 3 * k + 3 ≤ j ∧ j < 11 + 3 * c + 3
  · rw [if_pos (by omega), if_pos h]
  · rw [if_neg (by omega), if_neg h]
theorem shw_s (g : Nat → Int32) {c k w : Nat} (hk : k < c) (hw : w < 3) : upd (shw g c k w) (11 + 3 * (k + 1) + w) (g (11 + 3 * k + w)) = shw g c k (w + 1) := by
  funext j
  unfold upd shw
  by_cases h : j = 11 + 3 * (k + 1) + w
  · rw [if_pos h, if_pos (by omega)]
    congr 1; omega
  · rw [if_neg h]
    by_cases h2 : (11 + 3 * (k + 1) ≤ j ∧ j < 11 + 3 * (k + 1) + w) ∨ (11 + 3 * (k + 1) + 3 ≤ j ∧ j < 11 + 3 * c + 3)
    · rw [if_pos h2, if_pos (by omega)]
    · rw [if_neg h2, if_neg (by omega)]
theorem nI_s1 (k : Nat) : nI (k + 1) - 1 = nI k := nI_sub (a := k + 1) (b := 1) (by omega)
theorem lp_shp {Q : ab_Q} {n c k : Nat} {S : SS} (g : Nat → Int32) (t r0 kk : Int32) (hn : 279 ≤ n) (hc : c < 20) (hk1 : k < c) (hQ : ∀ l5, WA RX7 cX7_addPlan 6 [] (ab_rm 1 0 0) Q 0 0 8 [some (.ref 267), some (.int t), some (.int r0), some (.int kk), some (.int (nI k)), l5] [] n (Hp (md (fun _ => shp g c k) S))) :
    ∀ (r w : Nat), w + r = 3 → WA RX7 cX7_addPlan 6 [] (ab_rm 1 0 0) Q 0 0 29 [some (.ref 267), some (.int t), some (.int r0), some (.int kk), some (.int (nI (k + 1))), some (.int (nI w))] [] n (Hp (md (fun _ => shw g c k w) S)) := by
  intro r
  induction r with
  | zero =>
    intro w hk
    have hk' : 3 = w := by omega
    
    have hk2 : w = 3 := by omega
    subst hk2
    refine wa_iload dX7_addPlan_29 rfl ?_
    refine wa_iconst (x := 3) dX7_addPlan_31 (by decide) ?_
    refine wa_icmp_ge 73 dX7_addPlan_32 rfl (fun c32 => ?_) (fun c32 => absurd (nI_le (a := 3) (Nat.le_refl _) (by omega)) c32)
    refine wa_iinc (y := (-1)) dX7_addPlan_73 rfl (by decide) rfl ?_
    rw [show nI (k + 1) + (-1 : Int32) = nI k from (Int32.sub_eq_add_neg ..).symm.trans (nI_s1 k), shw_3 g hk1]
    refine wa_goto 8 dX7_addPlan_76 rfl ?_
    exact hQ _
  | succ r ih =>
    intro w hk
    have e : shw g c k w (11 + 3 * k + w) = g (11 + 3 * k + w) := by
      unfold shw
      rw [if_neg (by omega)]
    refine wa_iload dX7_addPlan_29 rfl ?_
    refine wa_iconst (x := 3) dX7_addPlan_31 (by decide) ?_
    refine wa_icmp_ge 73 dX7_addPlan_32 rfl (fun c32 => absurd c32 (nI_ge (a := w) (b := 3) (by omega) (by omega))) (fun c32 => ?_)
    refine wa_aload_n dX7_addPlan_35 rfl ?_
    refine g_row (by assumption) dX7_addPlan_36 fl_X7_24 ?_
    refine wa_bipush (x := 11) dX7_addPlan_39 (by decide) ?_
    refine wa_iconst (x := 3) dX7_addPlan_41 (by decide) ?_
    refine wa_iload dX7_addPlan_42 rfl ?_
    refine wa_imul dX7_addPlan_44 ?_
    refine wa_iadd dX7_addPlan_45 ?_
    refine wa_iload dX7_addPlan_46 rfl ?_
    refine wa_iadd dX7_addPlan_48 ?_
    refine wa_aload_n dX7_addPlan_49 rfl ?_
    refine g_row (by assumption) dX7_addPlan_50 fl_X7_24 ?_
    refine wa_bipush (x := 11) dX7_addPlan_53 (by decide) ?_
    refine wa_iconst (x := 3) dX7_addPlan_55 (by decide) ?_
    refine wa_iload dX7_addPlan_56 rfl ?_
    refine wa_iconst (x := 1) dX7_addPlan_58 (by decide) ?_
    refine wa_isub dX7_addPlan_59 ?_
    rw [nI_s1 k]
    refine wa_imul dX7_addPlan_60 ?_
    refine wa_iadd dX7_addPlan_61 ?_
    refine wa_iload dX7_addPlan_62 rfl ?_
    refine wa_iadd dX7_addPlan_64 ?_
    refine s_iald (j := 11 + 3 * k + w) isA_mr dX7_addPlan_65 (lt_mr (by assumption)) (ix_pl (by omega) (by omega)) (by omega) ?_
    rw [row_c, e]
    refine s_iast (j := 11 + 3 * (k + 1) + w) isA_mr dX7_addPlan_66 (lt_mr (by assumption)) (ix_pl (by omega) (by omega)) (by omega) ?_
    rw [md_ss, shw_s g hk1 (by omega)]
    refine wa_iinc (y := 1) dX7_addPlan_67 rfl (by decide) rfl ?_
    refine wa_goto 29 dX7_addPlan_70 rfl ?_
    rw [nI_1 w]
    exact ih (w + 1) (by omega)
theorem lp_addPlan {Q : ab_Q} {n c I : Nat} {S : SS} (g : Nat → Int32) (t r kk : Int32) (hn : 279 ≤ n) (hc : c < 20) (hQ : ∀ l5, WA RX7 cX7_addPlan 6 [] (ab_rm 1 0 0) Q 0 0 79 [some (.ref 267), some (.int t), some (.int r), some (.int kk), some (.int (nI I)), l5] [] n (Hp (md (fun _ => shp g c I) S))) :
    ∀ (k : Nat) (l5 : Option Value), k ≤ c → ipos g t k = I → WA RX7 cX7_addPlan 6 [] (ab_rm 1 0 0) Q 0 0 8 [some (.ref 267), some (.int t), some (.int r), some (.int kk), some (.int (nI k)), l5] [] n (Hp (md (fun _ => shp g c k) S)) := by
  intro k
  induction k with
  | zero =>
    intro l5 hk hI
    subst hI
    refine wa_iload dX7_addPlan_8 rfl ?_
    refine wa_if_le 79 dX7_addPlan_10 rfl (fun c10 => ?_) (fun c10 => absurd (show nI 0 ≤ 0 by decide) c10)
    exact hQ _
  | succ k ih =>
    intro l5 hk hI
    have hI : (if t < g (11 + 3 * k) then ipos g t k else k + 1) = I := hI
    have e : shp g c (k + 1) (11 + 3 * k + 0) = g (11 + 3 * k) := by
      unfold shp
      rw [if_neg (by omega), Nat.add_zero]
    refine wa_iload dX7_addPlan_8 rfl ?_
    refine wa_if_le 79 dX7_addPlan_10 rfl (fun c10 => absurd c10 (nI_ge (a := 0) (b := k + 1) (by omega) (by omega))) (fun c10 => ?_)
    refine wa_aload_n dX7_addPlan_13 rfl ?_
    refine wa_iload dX7_addPlan_14 rfl ?_
    refine wa_iconst (x := 1) dX7_addPlan_16 (by decide) ?_
    refine wa_isub dX7_addPlan_17 ?_
    rw [nI_s1 k]
    refine wa_iconst (x := 0) dX7_addPlan_18 (by decide) ?_
    refine c_VI dX7_addPlan_19 (mm_ofPlan (k := k) (w := 0) (by assumption) (by omega) (by decide)) lk_X7_132 rfl (isO_MO _ _ _) rfl (ltS (by assumption)) ?_
    rw [row_c, e]
    refine wa_iload_n dX7_addPlan_22 rfl ?_
    refine wa_icmp_le 79 dX7_addPlan_23 rfl (fun c23 => ?_) (fun c23 => ?_)
    · rw [if_neg (Int32.not_lt.mpr c23)] at hI
      subst hI
      exact hQ _
    · rw [if_pos (Int32.not_le.mp c23)] at hI
      refine wa_iconst (x := 0) dX7_addPlan_26 (by decide) ?_
      refine wa_istore dX7_addPlan_27 rfl ?_
      rw [← shw_0]
      exact lp_shp g t r kk hn hc (by omega) (fun l5 => ih l5 (by omega) hI) 3 0 (by omega)
theorem mm_addPlan {n : Nat} {S : SS} (hn : 279 ≤ n) (h0 : 0 ≤ (row S 3).toInt) (hp : pn (row S) < 20) (t r kk : Int32) : AM yX7_addPlan cX7_addPlan 6 (some .int) [] 1 0 0 [.ref 267, .int t, .int r, .int kk] n (Hp S) (PI (nI (ipos (row S) t (pn (row S)))) n (md (f_plan t r kk) S)) := by
  intro has
  change WA RX7 cX7_addPlan 6 [] _ _ 0 0 0 [some (.ref 267), some (.int t), some (.int r), some (.int kk), none, none] [] n _
  have e3 : S.1 (mr S) 3 = nI (pn (row S)) := (nI_of_nn h0).1
  refine wa_aload_n dX7_addPlan_0 rfl ?_
  refine g_row (by assumption) dX7_addPlan_1 fl_X7_24 ?_
  refine wa_iconst (x := 3) dX7_addPlan_4 (by decide) ?_
  refine s_iald (j := 3) isA_mr dX7_addPlan_5 (lt_mr (by assumption)) rfl (by decide) ?_
  rw [e3]
  refine wa_istore dX7_addPlan_6 rfl ?_
  refine wa_cg (S1 := md (fun _ => shp (row S) (pn (row S)) (pn (row S))) S) (by rw [shp_c]; exact md_self S) ?_
  refine lp_addPlan (row S) t r kk hn hp (fun l5 => ?_) (pn (row S)) none (Nat.le_refl _) rfl
  have hI := ipos_le (row S) t (pn (row S))
  generalize hJ : ipos (row S) t (pn (row S)) = I at hI ⊢
  refine wa_aload_n dX7_addPlan_79 rfl ?_
  refine g_row (by assumption) dX7_addPlan_80 fl_X7_24 ?_
  refine wa_bipush (x := 11) dX7_addPlan_83 (by decide) ?_
  refine wa_iconst (x := 3) dX7_addPlan_85 (by decide) ?_
  refine wa_iload dX7_addPlan_86 rfl ?_
  refine wa_imul dX7_addPlan_88 ?_
  refine wa_iadd dX7_addPlan_89 ?_
  refine wa_iconst (x := 0) dX7_addPlan_90 (by decide) ?_
  refine wa_iadd dX7_addPlan_91 ?_
  refine wa_iload_n dX7_addPlan_92 rfl ?_
  refine s_iast (j := 11 + 3 * I + 0) isA_mr dX7_addPlan_93 (lt_mr (by assumption)) (ix_pl (w := 0) (by omega) (by decide)) (by omega) ?_
  rw [md_ss]
  refine wa_aload_n dX7_addPlan_94 rfl ?_
  refine g_row (by assumption) dX7_addPlan_95 fl_X7_24 ?_
  refine wa_bipush (x := 11) dX7_addPlan_98 (by decide) ?_
  refine wa_iconst (x := 3) dX7_addPlan_100 (by decide) ?_
  refine wa_iload dX7_addPlan_101 rfl ?_
  refine wa_imul dX7_addPlan_103 ?_
  refine wa_iadd dX7_addPlan_104 ?_
  refine wa_iconst (x := 1) dX7_addPlan_105 (by decide) ?_
  refine wa_iadd dX7_addPlan_106 ?_
  refine wa_iload_n dX7_addPlan_107 rfl ?_
  refine s_iast (j := 11 + 3 * I + 1) isA_mr dX7_addPlan_108 (lt_mr (by assumption)) (ix_pl (w := 1) (by omega) (by decide)) (by omega) ?_
  rw [md_ss]
  refine wa_aload_n dX7_addPlan_109 rfl ?_
  refine g_row (by assumption) dX7_addPlan_110 fl_X7_24 ?_
  refine wa_bipush (x := 11) dX7_addPlan_113 (by decide) ?_
  refine wa_iconst (x := 3) dX7_addPlan_115 (by decide) ?_
  refine wa_iload dX7_addPlan_116 rfl ?_
  refine wa_imul dX7_addPlan_118 ?_
  refine wa_iadd dX7_addPlan_119 ?_
  refine wa_iconst (x := 2) dX7_addPlan_120 (by decide) ?_
  refine wa_iadd dX7_addPlan_121 ?_
  refine wa_iload_n dX7_addPlan_122 rfl ?_
  refine s_iast (j := 11 + 3 * I + 2) isA_mr dX7_addPlan_123 (lt_mr (by assumption)) (ix_pl (w := 2) (by omega) (by decide)) (by omega) ?_
  rw [md_ss]
  refine wa_aload_n dX7_addPlan_124 rfl ?_
  refine g_row (by assumption) dX7_addPlan_125 fl_X7_24 ?_
  refine wa_iconst (x := 3) dX7_addPlan_128 (by decide) ?_
  refine wa_dup2 dX7_addPlan_129 rfl rfl ?_
  refine s_iald (j := 3) isA_mr dX7_addPlan_130 (lt_mr (by assumption)) rfl (by decide) ?_
  rw [row_c]
  refine wa_iconst (x := 1) dX7_addPlan_131 (by decide) ?_
  refine wa_iadd dX7_addPlan_132 ?_
  refine s_iast (j := 3) isA_mr dX7_addPlan_133 (lt_mr (by assumption)) rfl (by decide) ?_
  rw [md_ss]
  refine wa_iload dX7_addPlan_134 rfl ?_
  refine wa_ireturn dX7_addPlan_136 ⟨Nat.le_refl _, Nat.le_refl _, ⟨_, rfl, rfl⟩, rfl, rfl, congrArg Hp ?_⟩
  refine (congrArg (fun f => md (fun _ => f) S) (funext fun j => ?_)).trans (md_f (f_plan t r kk) S)
  show upd _ 3 _ j = f_plan t r kk (row S) j
  unfold f_plan
  rw [hJ]
  unfold f_ins upd shp
  rw [if_neg (show ¬ (3 = 11 + 3 * I + 2) by omega), if_neg (show ¬ (3 = 11 + 3 * I + 1) by omega), if_neg (show ¬ (3 = 11 + 3 * I + 0) by omega), if_neg (show ¬ (11 + 3 * I + 3 ≤ 3 ∧ 3 < 11 + 3 * pn (row S) + 3) by omega)]
