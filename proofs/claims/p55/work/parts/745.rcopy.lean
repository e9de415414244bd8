/-! ValveRoom$Room: copyFrom. Written by program (wip/whole/gen/m745.py) but for the heads. -/
/-- room r has taken the first m numbers of room q, since S0 -/
def CPR (S0 S : SS) (r q m : Nat) : Prop := (isR r ∧ isR q ∧ ¬ q = r) ∧ S.2 = S0.2 ∧ (∀ k, ¬ k = r → S.1 k = S0.1 k) ∧ ∀ j, 1 ≤ j → j ≤ m → S.1 r j = S0.1 q j
theorem CPR.put {S0 S : SS} {r q m : Nat} (h : CPR S0 S r q m) : CPR S0 (ss S r (m + 1) (S0.1 q (m + 1))) r q (m + 1) := by
  obtain ⟨h1, h2, h3, h4⟩ := h
  refine ⟨h1, h2, fun k hk => (if_neg hk).trans (h3 k hk), fun j j1 j2 => ?_⟩
  rw [ss_1]
  by_cases hj : j = m + 1
  · rw [if_pos ⟨rfl, hj⟩, hj]
  · rw [if_neg (fun z => hj z.2)]; exact h4 j j1 (by omega)
section CPS
variable {own : String} {cc : ByteArray} {nL : Nat} {hh : List (Nat × Nat × Nat × Nat)} {R : Room} {Q : ab_Q} {k z pc : Nat} {ls : List (Option Value)} {st : List Value} {n : Nat} {S0 S : SS} {r q m : Nat}
theorem cp_g {index : Nat} (h : CPR S0 S r q m) (hn : 269 ≤ n) (j : Nat) (d : decode cc pc = .ok (.getfield index, 3)) (fl : Cond.fieldLink own index (TX4 j).1 (TX4 j).2.1 (TX4 j).2.2.1 ∈ ab_big) (hj : j < 15) (hv : ∀ f w' Rr, (ly_RO q f w' Rr)[j]? = some (.int (f j)))
    (K : WA own cc nL hh R Q k z (pc + 3) ls (.int (S0.1 q j) :: st) n (Hp S)) : WA own cc nL hh R Q k z pc ls (.ref q :: st) n (Hp S) := by
  refine g_RO h.1.2.1 hn j d fl hj (hv _ _ _) ?_
  rw [h.2.2.1 q h.1.2.2]
  exact K
theorem cp_p {index : Nat} {ty : FieldType} (h : CPR S0 S r q m) (hn : 269 ≤ n) (d : decode cc pc = .ok (.putfield index, 3)) (fl : Cond.fieldLink own index (TX4 (m + 1)).1 (TX4 (m + 1)).2.1 (TX4 (m + 1)).2.2.1 ∈ ab_big) (hj : m + 1 < 15) (hfin : (TX4 (m + 1)).2.2.2 = false) (hd : parseFieldDescriptor (TX4 (m + 1)).2.2.1 = some ty) (hnr : narrow ty (.int (S0.1 q (m + 1))) = .int (S0.1 q (m + 1))) (hfit : fits ty (.int (S0.1 q (m + 1))) = true)
    (hset : ∀ f w' Rr (x : Int32), (ly_RO r f w' Rr).set (m + 1) (.int x) = ly_RO r (upd f (m + 1) x) w' Rr)
    (K : ∀ S', CPR S0 S' r q (m + 1) → WA own cc nL hh R Q k z (pc + 3) ls st n (Hp S')) : WA own cc nL hh R Q k z pc ls (.int (S0.1 q (m + 1)) :: .ref r :: st) n (Hp S) :=
  p_RO h.1.1 hn (m + 1) d fl hj hfin hd hnr hfit (fun f w' Rr => hset f w' Rr _) (by show m + 1 < 15; exact hj) (K _ h.put)
/-- a room's name put -/
theorem p_name {index w : Nat} (hr : isR r) (hn : 269 ≤ n) (d : decode cc pc = .ok (.putfield index, 3)) (fl : Cond.fieldLink own index (TX4 0).1 (TX4 0).2.1 (TX4 0).2.2.1 ∈ ab_big)
    (K : WA own cc nL hh R Q k z (pc + 3) ls st n (Hp (sw S r w))) : WA own cc nL hh R Q k z pc ls (.ref w :: .ref r :: st) n (Hp S) := by
  refine wa_putf 0 tyX4 d fl cl_RO.1 cl_RO.2.1 cl_RO.2.2.1 cl_RO.2.2.2 (by decide) rfl (ty := .object "java/lang/String") rfl (fun _ => rfl) (fun _ => rfl) (lt_RO hr hn) (hr.RO _ _ _) (Nat.le_of_ble_eq_true rfl) ?_
  rw [show (Sum.inr (3, (ly_RO r (S.1 r) (S.2.1 r) S.2.2).set 0 (.ref w)) : va_E) = .inr (3, ly_RO r (S.1 r) w S.2.2) from rfl, hp_sw (S := S) (w := w) (hr.RO _ _ _)]
  exact K
/-- ints copied from one array to another -/
theorem s_copy {index a0 a1 len : Nat} {x : Int32} (dd : decode cc pc = .ok (.invokestatic index, 3)) (hw : ∀ w ∈ [Cond.methodLink own index arraycopyName, .native arraycopyName, .static arraycopyName, .initialized "java/lang/System"], w ∈ ab_big)
    (h0 : isA a0 0 len) (h1 : isA a1 0 len) (ha0 : a0 < n) (ha1 : a1 < n) (hx : x.toInt = (len : Int)) (hR : 1 ≤ R.frames ∧ (st.map fun v => v.category).sum + 60 ≤ R.locals)
    (K : WA own cc nL hh R Q k z (pc + 3) ls st n (Hp (su S a1 (va_cpy (S.1 a0) (S.1 a1) 0 0 len)))) : WA own cc nL hh R Q k z pc ls (.int x :: .int 0 :: .ref a1 :: .int 0 :: .ref a0 :: st) n (Hp S) := by
  refine wa_copy (sp := 0) (dp := 0) (len := len) (ty := .int) dd hw ha0 ha1 (h0 _ _ _) (h1 _ _ _) rfl rfl rfl rfl hx (by omega) (by omega) (fun _ _ => rfl) hR ?_
  have e := hp_su (S := S) (a := a1) (f := va_cpy (S.1 a0) (S.1 a1) 0 0 len) (e := .inl (0, len, .inl (va_cpy (S.1 a0) (S.1 a1) 0 0 len))) (h1 _ _ _)
  rw [e]
  exact K
end CPS
theorem cpy_at (f g : Nat → Int32) {len j : Nat} (h : j < len) : va_cpy f g 0 0 len j = f j := by
  unfold va_cpy
  simp [h]
theorem nar_b {x : Int32} (h : x = 0 ∨ x = 1) : narrow .boolean (.int x) = .int x := by
  rcases h with rfl | rfl <;> rfl
theorem fit_b {x : Int32} (h : x = 0 ∨ x = 1) : fits .boolean (.int x) = true := by
  rcases h with rfl | rfl <;> rfl
/-- what copyFrom leaves -/
def CPD (S S' : SS) (r q : Nat) : Prop := S'.2.2 = S.2.2 ∧ S'.2.1 r = S.2.1 q ∧ (∀ k, ¬ k = r → S'.2.1 k = S.2.1 k) ∧ (∀ k, ¬ k = r → ¬ k = r + 1 → ¬ k = r + 2 → S'.1 k = S.1 k) ∧ (∀ j, 1 ≤ j → j < 12 → S'.1 r j = S.1 q j) ∧ S'.1 r 14 = S.1 q 14 ∧ (∀ c, c < 6 → S'.1 (r + 1) c = S.1 (q + 1) c) ∧ ∀ t, t < 48 → S'.1 (r + 2) t = S.1 (q + 2) t
theorem hh_rcopy {n r q : Nat} {S : SS} (hn : 269 ≤ n) (hr : isR r) (hq : isR q) (hrq : ¬ q = r) (hd : r + 3 ≤ q ∨ q + 3 ≤ r) (hz : (S.1 q 6 = 0 ∨ S.1 q 6 = 1) ∧ (S.1 q 7 = 0 ∨ S.1 q 7 = 1)) : AM yX4_copyFrom cX4_copyFrom 2 none [] 0 0 0 [.ref r, .ref q] n (Hp S) (PVe n (fun S' => CPD S S' r q)) := by
  intro has
  change WA RX4 cX4_copyFrom 2 [] _ _ 0 0 0 [some (.ref r), some (.ref q)] [] n _
  refine wa_aload_n dX4_copyFrom_0 rfl ?_
  refine wa_aload_n dX4_copyFrom_1 rfl ?_
  refine g_RO hq hn 0 dX4_copyFrom_2 fl_X4_11 (by decide) (v := .ref (S.2.1 q)) rfl ?_
  refine p_name hr hn dX4_copyFrom_5 fl_X4_11 ?_
  have h0 : CPR (sw S r (S.2.1 q)) (sw S r (S.2.1 q)) r q 0 := ⟨⟨hr, hq, hrq⟩, rfl, fun _ _ => rfl, fun j j1 j2 => by omega⟩
  refine wa_aload_n dX4_copyFrom_8 rfl ?_
  refine wa_aload_n dX4_copyFrom_9 rfl ?_
  refine cp_g h0 hn 1 dX4_copyFrom_10 fl_X4_24 (by decide) (fun _ _ _ => rfl) ?_
  refine cp_p h0 hn dX4_copyFrom_13 fl_X4_24 (by decide) rfl rfl rfl rfl (fun _ _ _ _ => rfl) (fun S1 h1 => ?_)
  refine wa_aload_n dX4_copyFrom_16 rfl ?_
  refine wa_aload_n dX4_copyFrom_17 rfl ?_
  refine cp_g h1 hn 2 dX4_copyFrom_18 fl_X4_28 (by decide) (fun _ _ _ => rfl) ?_
  refine cp_p h1 hn dX4_copyFrom_21 fl_X4_28 (by decide) rfl rfl rfl rfl (fun _ _ _ _ => rfl) (fun S2 h2 => ?_)
  refine wa_aload_n dX4_copyFrom_24 rfl ?_
  refine wa_aload_n dX4_copyFrom_25 rfl ?_
  refine cp_g h2 hn 3 dX4_copyFrom_26 fl_X4_31 (by decide) (fun _ _ _ => rfl) ?_
  refine cp_p h2 hn dX4_copyFrom_29 fl_X4_31 (by decide) rfl rfl rfl rfl (fun _ _ _ _ => rfl) (fun S3 h3 => ?_)
  refine wa_aload_n dX4_copyFrom_32 rfl ?_
  refine wa_aload_n dX4_copyFrom_33 rfl ?_
  refine cp_g h3 hn 4 dX4_copyFrom_34 fl_X4_34 (by decide) (fun _ _ _ => rfl) ?_
  refine cp_p h3 hn dX4_copyFrom_37 fl_X4_34 (by decide) rfl rfl rfl rfl (fun _ _ _ _ => rfl) (fun S4 h4 => ?_)
  refine wa_aload_n dX4_copyFrom_40 rfl ?_
  refine wa_aload_n dX4_copyFrom_41 rfl ?_
  refine cp_g h4 hn 5 dX4_copyFrom_42 fl_X4_37 (by decide) (fun _ _ _ => rfl) ?_
  refine cp_p h4 hn dX4_copyFrom_45 fl_X4_37 (by decide) rfl rfl rfl rfl (fun _ _ _ _ => rfl) (fun S5 h5 => ?_)
  refine wa_aload_n dX4_copyFrom_48 rfl ?_
  refine wa_aload_n dX4_copyFrom_49 rfl ?_
  refine cp_g h5 hn 6 dX4_copyFrom_50 fl_X4_40 (by decide) (fun _ _ _ => rfl) ?_
  refine cp_p h5 hn dX4_copyFrom_53 fl_X4_40 (by decide) rfl rfl (nar_b hz.1) (fit_b hz.1) (fun _ _ _ _ => rfl) (fun S6 h6 => ?_)
  refine wa_aload_n dX4_copyFrom_56 rfl ?_
  refine wa_aload_n dX4_copyFrom_57 rfl ?_
  refine cp_g h6 hn 7 dX4_copyFrom_58 fl_X4_44 (by decide) (fun _ _ _ => rfl) ?_
  refine cp_p h6 hn dX4_copyFrom_61 fl_X4_44 (by decide) rfl rfl (nar_b hz.2) (fit_b hz.2) (fun _ _ _ _ => rfl) (fun S7 h7 => ?_)
  refine wa_aload_n dX4_copyFrom_64 rfl ?_
  refine wa_aload_n dX4_copyFrom_65 rfl ?_
  refine cp_g h7 hn 8 dX4_copyFrom_66 fl_X4_47 (by decide) (fun _ _ _ => rfl) ?_
  refine cp_p h7 hn dX4_copyFrom_69 fl_X4_47 (by decide) rfl rfl rfl rfl (fun _ _ _ _ => rfl) (fun S8 h8 => ?_)
  refine wa_aload_n dX4_copyFrom_72 rfl ?_
  refine wa_aload_n dX4_copyFrom_73 rfl ?_
  refine cp_g h8 hn 9 dX4_copyFrom_74 fl_X4_50 (by decide) (fun _ _ _ => rfl) ?_
  refine cp_p h8 hn dX4_copyFrom_77 fl_X4_50 (by decide) rfl rfl rfl rfl (fun _ _ _ _ => rfl) (fun S9 h9 => ?_)
  refine wa_aload_n dX4_copyFrom_80 rfl ?_
  refine wa_aload_n dX4_copyFrom_81 rfl ?_
  refine cp_g h9 hn 10 dX4_copyFrom_82 fl_X4_53 (by decide) (fun _ _ _ => rfl) ?_
  refine cp_p h9 hn dX4_copyFrom_85 fl_X4_53 (by decide) rfl rfl rfl rfl (fun _ _ _ _ => rfl) (fun S10 h10 => ?_)
  refine wa_aload_n dX4_copyFrom_88 rfl ?_
  refine wa_aload_n dX4_copyFrom_89 rfl ?_
  refine cp_g h10 hn 11 dX4_copyFrom_90 fl_X4_56 (by decide) (fun _ _ _ => rfl) ?_
  refine cp_p h10 hn dX4_copyFrom_93 fl_X4_56 (by decide) rfl rfl rfl rfl (fun _ _ _ _ => rfl) (fun S11 h11 => ?_)
  refine wa_aload_n dX4_copyFrom_96 rfl ?_
  refine g_RO hq hn 12 dX4_copyFrom_97 fl_X4_17 (by decide) rfl ?_
  refine wa_iconst (x := 0) dX4_copyFrom_100 (by decide) ?_
  refine wa_aload_n dX4_copyFrom_101 rfl ?_
  refine g_RO hr hn 12 dX4_copyFrom_102 fl_X4_17 (by decide) rfl ?_
  refine wa_iconst (x := 0) dX4_copyFrom_105 (by decide) ?_
  refine wa_bipush (x := 6) dX4_copyFrom_106 (by decide) ?_
  refine s_copy (len := 6) dX4_copyFrom_108 lk_X4_59 hq.cnt hr.cnt (lt_R1 hq hn) (lt_R1 hr hn) rfl (by unfold ab_rm; exact ⟨by simp, by simp⟩) ?_
  refine wa_aload_n dX4_copyFrom_111 rfl ?_
  refine g_RO hq hn 13 dX4_copyFrom_112 fl_X4_21 (by decide) rfl ?_
  refine wa_iconst (x := 0) dX4_copyFrom_115 (by decide) ?_
  refine wa_aload_n dX4_copyFrom_116 rfl ?_
  refine g_RO hr hn 13 dX4_copyFrom_117 fl_X4_21 (by decide) rfl ?_
  refine wa_iconst (x := 0) dX4_copyFrom_120 (by decide) ?_
  refine wa_bipush (x := 48) dX4_copyFrom_121 (by decide) ?_
  refine s_copy (len := 48) dX4_copyFrom_123 lk_X4_59 hq.prg hr.prg (lt_R2 hq hn) (lt_R2 hr hn) rfl (by unfold ab_rm; exact ⟨by simp, by simp⟩) ?_
  refine wa_aload_n dX4_copyFrom_126 rfl ?_
  refine wa_aload_n dX4_copyFrom_127 rfl ?_
  refine g_RO hq hn 14 dX4_copyFrom_128 fl_X4_65 (by decide) rfl ?_
  refine p_RO hr hn 14 dX4_copyFrom_131 fl_X4_65 (by decide) rfl rfl rfl rfl (fun _ _ _ => rfl) (Nat.le_of_ble_eq_true rfl) ?_
  exact wa_return dX4_copyFrom_134 ⟨Nat.le_refl _, Nat.le_refl _, rfl, rfl, rfl, _, rfl, by
      obtain ⟨-, k2, k3, k4⟩ := h11
      have q0 : S11.1 q = S.1 q := k3 q hrq
      have q1 : S11.1 (q + 1) = S.1 (q + 1) := k3 _ (by omega)
      have q2 : S11.1 (q + 2) = S.1 (q + 2) := k3 _ (by omega)
      refine ⟨show S11.2.2 = S.2.2 from congrArg (fun z => z.2) k2, show S11.2.1 r = S.2.1 q from (congrFun (congrArg (fun z => z.1) k2) r).trans (if_pos rfl), fun k hk => show S11.2.1 k = S.2.1 k from (congrFun (congrArg (fun z => z.1) k2) k).trans (if_neg hk), fun k a1 a2 a3 => ?_, fun j j1 j2 => ?_, ?_, fun c hc => ?_, fun t ht => ?_⟩
      · exact (if_neg a1).trans ((if_neg a3).trans ((if_neg a2).trans (k3 k a1)))
      · rw [ss_1, if_neg (by omega)]
        exact (congrFun ((if_neg (by omega)).trans (if_neg (by omega))) j).trans (k4 j j1 (by omega))
      · rw [ss_1, if_pos ⟨rfl, rfl⟩]
        exact congrFun ((if_neg (by omega)).trans ((if_neg (by omega)).trans q0)) 14
      · rw [ss_1, if_neg (by omega)]
        refine (congrFun ((if_neg (by omega)).trans (su_s _ _ _)) c).trans ?_
        rw [cpy_at _ _ hc, q1]
      · rw [ss_1, if_neg (by omega), su_s, cpy_at _ _ ht, su_n _ _ (by omega), q2]⟩

