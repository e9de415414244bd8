/-! ValveRoom$House: copyFrom. Written by program (wip/whole/gen/m750.py) but for the heads. -/
theorem isH.dis {a q : Nat} (ha : isH a) (hq : isH q) (h : ¬ a = q) : a + 23 ≤ q ∨ q + 23 ≤ a := by
  rcases ha with rfl | rfl | rfl | ⟨j, hj, rfl⟩ <;> rcases hq with rfl | rfl | rfl | ⟨i, hi, rfl⟩ <;> omega
def CPH (S0 S : SS) (a q m : Nat) : Prop := (isH a ∧ isH q ∧ ¬ a = q) ∧ S.2 = S0.2 ∧ (∀ k, ¬ k = a → S.1 k = S0.1 k) ∧ ∀ j, j < m → S.1 a j = S0.1 q j
theorem CPH.put {S0 S : SS} {a q m : Nat} (h : CPH S0 S a q m) : CPH S0 (ss S a m (S0.1 q m)) a q (m + 1) := by
  obtain ⟨h1, h2, h3, h4⟩ := h
  refine ⟨h1, h2, fun k hk => (if_neg hk).trans (h3 k hk), fun j j2 => ?_⟩
  rw [ss_1]
  by_cases hj : j = m
  · rw [if_pos ⟨rfl, hj⟩, hj]
  · rw [if_neg (fun z => hj z.2)]; exact h4 j (by omega)
section CPS
variable {own : String} {cc : ByteArray} {nL : Nat} {hh : List (Nat × Nat × Nat × Nat)} {R : Room} {Q : ab_Q} {k z pc : Nat} {ls : List (Option Value)} {st : List Value} {n : Nat} {S0 S : SS} {a q m : Nat}
theorem ch_g {index : Nat} (h : CPH S0 S a q m) (hn : 269 ≤ n) (j : Nat) (d : decode cc pc = .ok (.getfield index, 3)) (fl : Cond.fieldLink own index (TX1 j).1 (TX1 j).2.1 (TX1 j).2.2.1 ∈ ab_big) (hj : j < 15) (hv : ∀ f w' Rr, (ly_HO q f w' Rr)[j]? = some (.int (f j)))
    (K : WA own cc nL hh R Q k z (pc + 3) ls (.int (S0.1 q j) :: st) n (Hp S)) : WA own cc nL hh R Q k z pc ls (.ref q :: st) n (Hp S) := by
  refine g_HO h.1.2.1 hn j d fl hj (hv _ _ _) ?_
  rw [h.2.2.1 q (fun z => h.1.2.2 z.symm)]
  exact K
theorem ch_p {index : Nat} {ty : FieldType} (h : CPH S0 S a q m) (hn : 269 ≤ n) (d : decode cc pc = .ok (.putfield index, 3)) (fl : Cond.fieldLink own index (TX1 m).1 (TX1 m).2.1 (TX1 m).2.2.1 ∈ ab_big) (hj : m < 15) (hfin : (TX1 m).2.2.2 = false) (hd : parseFieldDescriptor (TX1 m).2.2.1 = some ty) (hnr : narrow ty (.int (S0.1 q m)) = .int (S0.1 q m)) (hfit : fits ty (.int (S0.1 q m)) = true)
    (hset : ∀ f w' Rr (x : Int32), (ly_HO a f w' Rr).set m (.int x) = ly_HO a (upd f m x) w' Rr)
    (K : ∀ S', CPH S0 S' a q (m + 1) → WA own cc nL hh R Q k z (pc + 3) ls st n (Hp S')) : WA own cc nL hh R Q k z pc ls (.int (S0.1 q m) :: .ref a :: st) n (Hp S) :=
  p_HO h.1.1 hn m d fl hj hfin hd hnr hfit (fun f w' Rr => hset f w' Rr _) (by show m < 15; exact hj) (K _ h.put)
end CPS
/-- a room taken over -/
def RCP (S0 S : SS) (r q : Nat) : Prop := (∀ j, 1 ≤ j → j < 12 → S.1 r j = S0.1 q j) ∧ S.1 r 14 = S0.1 q 14 ∧ (∀ c, c < 6 → S.1 (r + 1) c = S0.1 (q + 1) c) ∧ (∀ t, t < 48 → S.1 (r + 2) t = S0.1 (q + 2) t) ∧ S.2.1 r = S0.2.1 q
theorem RCP.RR {S0 S : SS} {r q i : Nat} {g : Nat → Int32} (h : RCP S0 S r q) (hr : RR S0 q g i) : RR S r g i := by
  obtain ⟨h1, h2, h3, h4, -⟩ := h
  refine ⟨fun w hw => (h1 _ (by omega) (by omega)).trans (hr.1 w hw), fun c hc => (h3 c hc).trans (hr.2.1 c hc), hr.2.2.1, h2.trans hr.2.2.2.1, fun t ht h0 => ?_⟩
  rw [h4 _ (by have := cnt_lt (pg g i) (s := t) (t := 48) ht h0; have := cnt_le (pg g i) 48; omega)]
  exact hr.2.2.2.2 t ht h0
/-- the rooms taken over so far; H1 is the state behind the header -/
def LCP (S0 S1 S : SS) (a q k : Nat) : Prop := S.2.2 = S0.2.2 ∧ (∀ x, (x < a + 5 ∨ a + 23 ≤ x) → S.1 x = S1.1 x ∧ S.2.1 x = S0.2.1 x) ∧ ∀ i, i < k → RCP S0 S (a + 5 + 3 * i) (q + 5 + 3 * i)
/-- what copyFrom leaves outside -/
def FRc (a : Nat) (S0 S : SS) : Prop := S.2.2 = S0.2.2 ∧ ∀ x, (x < a ∨ a + 23 ≤ x) → S.1 x = S0.1 x ∧ S.2.1 x = S0.2.1 x
theorem LCP.step {S0 S1 S S' : SS} {a q k : Nat} (h : LCP S0 S1 S a q k) (hk : k < 6) (hS : ∀ x, ¬ x = a → S1.1 x = S0.1 x) (hd : a + 23 ≤ q ∨ q + 23 ≤ a) (hc : CPD S S' (a + 5 + 3 * k) (q + 5 + 3 * k)) : LCP S0 S1 S' a q (k + 1) := by
  obtain ⟨h1, h2, h3⟩ := h
  obtain ⟨c1, c2, c3, c4, c5, c6, c7, c8⟩ := hc
  have src : ∀ o, o < 3 → S.1 (q + 5 + 3 * k + o) = S0.1 (q + 5 + 3 * k + o) := fun o ho => ((h2 _ (by omega)).1).trans (hS _ (by omega))
  have s0 := src 0 (by decide)
  have s1 := src 1 (by decide)
  have s2 := src 2 (by decide)
  refine ⟨c1.trans h1, fun x hx => ⟨(c4 x (by omega) (by omega) (by omega)).trans (h2 x hx).1, (c3 x (by omega)).trans (h2 x hx).2⟩, fun i hi => ?_⟩
  by_cases hik : i = k
  · subst hik
    refine ⟨fun j j1 j2 => (c5 j j1 j2).trans (congrFun s0 j), c6.trans (congrFun s0 14), fun c hc => (c7 c hc).trans (congrFun s1 c), fun t ht => (c8 t ht).trans (congrFun s2 t), c2.trans (h2 _ (by omega)).2⟩
  · obtain ⟨r1, r2, r3, r4, r5⟩ := h3 i (by omega)
    have e0 : S'.1 (a + 5 + 3 * i) = S.1 (a + 5 + 3 * i) := c4 _ (by omega) (by omega) (by omega)
    have e1 : S'.1 (a + 5 + 3 * i + 1) = S.1 (a + 5 + 3 * i + 1) := c4 _ (by omega) (by omega) (by omega)
    have e2 : S'.1 (a + 5 + 3 * i + 2) = S.1 (a + 5 + 3 * i + 2) := c4 _ (by omega) (by omega) (by omega)
    exact ⟨fun j j1 j2 => by rw [e0]; exact r1 j j1 j2, by rw [e0]; exact r2, fun c hc => by rw [e1]; exact r3 c hc, fun t ht => by rw [e2]; exact r4 t ht, (c3 _ (by omega)).trans r5⟩
theorem lp_hcopy {Q : ab_Q} {n a q c : Nat} {S0 S1 : SS} (hn : 269 ≤ n) (h1 : CPH S0 S1 a q 10) (hc : c ≤ 6) (hc9 : S0.1 q 9 = nI c) (hz : ∀ i, i < c → (S0.1 (q + 5 + 3 * i) 6 = 0 ∨ S0.1 (q + 5 + 3 * i) 6 = 1) ∧ (S0.1 (q + 5 + 3 * i) 7 = 0 ∨ S0.1 (q + 5 + 3 * i) 7 = 1)) : ∀ (r k : Nat) (S : SS), k + r = c → LCP S0 S1 S a q k → (∀ S', LCP S0 S1 S' a q c → WA RX1 cX1_copyFrom 3 [] (ab_rm 1 0 0) Q 0 0 111 [some (.ref a), some (.ref q), some (.int (nI (c)))] [] n (Hp S')) → WA RX1 cX1_copyFrom 3 [] (ab_rm 1 0 0) Q 0 0 82 [some (.ref a), some (.ref q), some (.int (nI (k)))] [] n (Hp S) := by
  have hd := h1.1.1.dis h1.1.2.1 h1.1.2.2
  intro r
  induction r with
  | zero =>
    intro k S hk' hl hQ
    refine wa_iload_n dX1_copyFrom_82 rfl ?_
    refine wa_aload_n dX1_copyFrom_83 rfl ?_
    refine g_HO h1.1.1 hn 9 dX1_copyFrom_84 fl_X1_59 (by decide) rfl ?_
    rw [show S.1 a 9 = nI c from (congrFun (hl.2.1 a (by omega)).1 9).trans ((h1.2.2.2 9 (by decide)).trans hc9)]
    refine wa_icmp_ge 111 dX1_copyFrom_87 rfl (fun c87 => ?_) (fun c87 => absurd (by rw [show k = c by omega]; exact Int32.le_refl _) c87)
    have e9 : k = c := by omega
    rw [e9] at hl ⊢
    exact hQ S hl
  | succ r ih =>
    intro k S hk' hl hQ
    have es : S.1 (q + 5 + 3 * k) = S0.1 (q + 5 + 3 * k) := ((hl.2.1 _ (by omega)).1).trans (h1.2.2.1 _ (by omega))
    have hz2 : (S.1 (q + 5 + 3 * k) 6 = 0 ∨ S.1 (q + 5 + 3 * k) 6 = 1) ∧ (S.1 (q + 5 + 3 * k) 7 = 0 ∨ S.1 (q + 5 + 3 * k) 7 = 1) := by rw [es]; exact hz k (by omega)
    refine wa_iload_n dX1_copyFrom_82 rfl ?_
    refine wa_aload_n dX1_copyFrom_83 rfl ?_
    refine g_HO h1.1.1 hn 9 dX1_copyFrom_84 fl_X1_59 (by decide) rfl ?_
    rw [show S.1 a 9 = nI c from (congrFun (hl.2.1 a (by omega)).1 9).trans ((h1.2.2.2 9 (by decide)).trans hc9)]
    refine wa_icmp_ge 111 dX1_copyFrom_87 rfl (fun c87 => absurd c87 (Int32.not_le.mpr (nI_lt (by omega) (by omega)))) (fun c87 => ?_)
    refine wa_aload_n dX1_copyFrom_90 rfl ?_
    refine g_HO h1.1.1 hn 10 dX1_copyFrom_91 fl_X1_11 (by decide) rfl ?_
    refine wa_iload_n dX1_copyFrom_94 rfl ?_
    refine L_room h1.1.1 hn (ix_nI (by omega)) (by omega) dX1_copyFrom_95 ?_
    refine wa_aload_n dX1_copyFrom_96 rfl ?_
    refine g_HO h1.1.2.1 hn 10 dX1_copyFrom_97 fl_X1_11 (by decide) rfl ?_
    refine wa_iload_n dX1_copyFrom_100 rfl ?_
    refine L_room h1.1.2.1 hn (ix_nI (by omega)) (by omega) dX1_copyFrom_101 ?_
    refine c_VQV dX1_copyFrom_102 (hh_rcopy hn (h1.1.1.R (by omega)) (h1.1.2.1.R (by omega)) (by omega) (by omega) hz2) lk_X1_65 rfl (isR.RO (h1.1.1.R (by omega)) _ _ _) rfl (lt_RO (h1.1.1.R (by omega)) hn) (fun S2 h2 => ?_)
    refine wa_iinc (y := 1) dX1_copyFrom_105 rfl (by decide) rfl ?_
    refine wa_goto 82 dX1_copyFrom_108 rfl ?_
    rw [nI_1 k]
    exact ih (k + 1) S2 (by omega) (hl.step (by omega) h1.2.2.1 hd h2) hQ
theorem hcopy_tail {Q : ab_Q} {n a q : Nat} {S : SS} {x : Int32} (hn : 269 ≤ n) (ha : isH a) (hq : isH q) (hd : a + 23 ≤ q ∨ q + 23 ≤ a) (hQ : ∀ S', (S'.2 = S.2 ∧ (∀ x, ¬ x = a + 2 → ¬ x = a + 3 → ¬ x = a + 4 → ¬ x = a → S'.1 x = S.1 x) ∧ (∀ j, j < 12 → S'.1 a j = if j = 11 then S.1 q 11 else S.1 a j) ∧ (∀ k, k < 20 → S'.1 (a + 2) k = S.1 (q + 2) k) ∧ (∀ k, k < 20 → S'.1 (a + 3) k = S.1 (q + 3) k) ∧ ∀ k, k < 20 → S'.1 (a + 4) k = S.1 (q + 4) k) → Q (.inl none) 0 0 n (Hp S')) : WA RX1 cX1_copyFrom 3 [] (ab_rm 1 0 0) Q 0 0 111 [some (.ref a), some (.ref q), some (.int x)] [] n (Hp S) := by
  refine wa_aload_n dX1_copyFrom_111 rfl ?_
  refine wa_aload_n dX1_copyFrom_112 rfl ?_
  refine g_HO hq hn 11 dX1_copyFrom_113 fl_X1_62 (by decide) rfl ?_
  refine p_HO ha hn 11 dX1_copyFrom_116 fl_X1_62 (by decide) rfl rfl rfl rfl (fun _ _ _ => rfl) (Nat.le_of_ble_eq_true rfl) ?_
  refine wa_aload_n dX1_copyFrom_119 rfl ?_
  refine g_HO hq hn 12 dX1_copyFrom_120 fl_X1_17 (by decide) rfl ?_
  refine wa_iconst (x := 0) dX1_copyFrom_123 (by decide) ?_
  refine wa_aload_n dX1_copyFrom_124 rfl ?_
  refine g_HO ha hn 12 dX1_copyFrom_125 fl_X1_17 (by decide) rfl ?_
  refine wa_iconst (x := 0) dX1_copyFrom_128 (by decide) ?_
  refine wa_bipush (x := 20) dX1_copyFrom_129 (by decide) ?_
  refine s_copy (len := 20) dX1_copyFrom_131 lk_X1_69 (isH.pl hq (o := 2) (by decide) (by decide)) (isH.pl ha (o := 2) (by decide) (by decide)) (lt_pl hq hn) (lt_pl ha hn) rfl (by unfold ab_rm; exact ⟨by simp, by simp⟩) ?_
  refine wa_aload_n dX1_copyFrom_134 rfl ?_
  refine g_HO hq hn 13 dX1_copyFrom_135 fl_X1_21 (by decide) rfl ?_
  refine wa_iconst (x := 0) dX1_copyFrom_138 (by decide) ?_
  refine wa_aload_n dX1_copyFrom_139 rfl ?_
  refine g_HO ha hn 13 dX1_copyFrom_140 fl_X1_21 (by decide) rfl ?_
  refine wa_iconst (x := 0) dX1_copyFrom_143 (by decide) ?_
  refine wa_bipush (x := 20) dX1_copyFrom_144 (by decide) ?_
  refine s_copy (len := 20) dX1_copyFrom_146 lk_X1_69 (isH.pl hq (o := 3) (by decide) (by decide)) (isH.pl ha (o := 3) (by decide) (by decide)) (lt_pl hq hn) (lt_pl ha hn) rfl (by unfold ab_rm; exact ⟨by simp, by simp⟩) ?_
  refine wa_aload_n dX1_copyFrom_149 rfl ?_
  refine g_HO hq hn 14 dX1_copyFrom_150 fl_X1_24 (by decide) rfl ?_
  refine wa_iconst (x := 0) dX1_copyFrom_153 (by decide) ?_
  refine wa_aload_n dX1_copyFrom_154 rfl ?_
  refine g_HO ha hn 14 dX1_copyFrom_155 fl_X1_24 (by decide) rfl ?_
  refine wa_iconst (x := 0) dX1_copyFrom_158 (by decide) ?_
  refine wa_bipush (x := 20) dX1_copyFrom_159 (by decide) ?_
  refine s_copy (len := 20) dX1_copyFrom_161 lk_X1_69 (isH.pl hq (o := 4) (by decide) (by decide)) (isH.pl ha (o := 4) (by decide) (by decide)) (lt_pl hq hn) (lt_pl ha hn) rfl (by unfold ab_rm; exact ⟨by simp, by simp⟩) ?_
  refine wa_return dX1_copyFrom_164 (hQ _ ⟨rfl, fun x x2 x3 x4 x0 => ?_, ?_, ?_, ?_, ?_⟩)
  · exact (if_neg x4).trans ((if_neg x3).trans ((if_neg x2).trans (if_neg x0)))
  · intro j hj
    refine (congrFun ((if_neg (by omega)).trans ((if_neg (by omega)).trans (if_neg (by omega)))) j).trans ?_
    rw [ss_1]
    by_cases h11 : j = 11
    · rw [if_pos ⟨rfl, h11⟩, if_pos h11]
    · rw [if_neg (fun z => h11 z.2), if_neg h11]
  · intro k hk
    refine (congrFun ((if_neg (by omega)).trans ((if_neg (by omega)).trans (su_s _ _ _))) k).trans ?_
    rw [cpy_at _ _ hk]
    exact congrFun (if_neg (by omega)) k
  · intro k hk
    refine (congrFun ((if_neg (by omega)).trans (su_s _ _ _)) k).trans ?_
    rw [cpy_at _ _ hk]
    exact congrFun ((if_neg (by omega)).trans (if_neg (by omega))) k
  · intro k hk
    refine (congrFun (su_s _ _ _) k).trans ?_
    rw [cpy_at _ _ hk]
    exact congrFun ((if_neg (by omega)).trans ((if_neg (by omega)).trans (if_neg (by omega)))) k
theorem hh_hcopy {n a q : Nat} {S : SS} {g : Nat → Int32} (hn : 269 ≤ n) (ha : isH a) (haq : ¬ a = q) (h : HH S q g (fun _ => True)) (e0 : g 0 = nI (rn g)) (hz : ∀ i, i < rn g → (of g i 5 = 0 ∨ of g i 5 = 1) ∧ (of g i 6 = 0 ∨ of g i 6 = 1)) : AM yX1_copyFrom cX1_copyFrom 3 none [] 1 0 0 [.ref a, .ref q] n (Hp S) (PVe n (fun S' => HH S' a g (fun _ => True) ∧ FRc a S S' ∧ ∀ i, i < rn g → S'.2.1 (a + 5 + 3 * i) = S.2.1 (q + 5 + 3 * i))) := by
  intro has
  change WA RX1 cX1_copyFrom 3 [] _ _ 0 0 0 [some (.ref a), some (.ref q), none] [] n _
  have h0 : CPH S S a q 0 := ⟨⟨ha, h.H, haq⟩, rfl, fun _ _ => rfl, fun j hj => absurd hj (Nat.not_lt_zero _)⟩
  have hd := ha.dis h.H haq
  refine wa_aload_n dX1_copyFrom_0 rfl ?_
  refine wa_aload_n dX1_copyFrom_1 rfl ?_
  refine ch_g h0 hn 0 dX1_copyFrom_2 fl_X1_31 (by decide) (fun _ _ _ => rfl) ?_
  refine ch_p h0 hn dX1_copyFrom_5 fl_X1_31 (by decide) rfl rfl rfl rfl (fun _ _ _ _ => rfl) (fun S1 h1 => ?_)
  refine wa_aload_n dX1_copyFrom_8 rfl ?_
  refine wa_aload_n dX1_copyFrom_9 rfl ?_
  refine ch_g h1 hn 1 dX1_copyFrom_10 fl_X1_35 (by decide) (fun _ _ _ => rfl) ?_
  refine ch_p h1 hn dX1_copyFrom_13 fl_X1_35 (by decide) rfl rfl rfl rfl (fun _ _ _ _ => rfl) (fun S2 h2 => ?_)
  refine wa_aload_n dX1_copyFrom_16 rfl ?_
  refine wa_aload_n dX1_copyFrom_17 rfl ?_
  refine ch_g h2 hn 2 dX1_copyFrom_18 fl_X1_38 (by decide) (fun _ _ _ => rfl) ?_
  refine ch_p h2 hn dX1_copyFrom_21 fl_X1_38 (by decide) rfl rfl rfl rfl (fun _ _ _ _ => rfl) (fun S3 h3 => ?_)
  refine wa_aload_n dX1_copyFrom_24 rfl ?_
  refine wa_aload_n dX1_copyFrom_25 rfl ?_
  refine ch_g h3 hn 3 dX1_copyFrom_26 fl_X1_41 (by decide) (fun _ _ _ => rfl) ?_
  refine ch_p h3 hn dX1_copyFrom_29 fl_X1_41 (by decide) rfl rfl rfl rfl (fun _ _ _ _ => rfl) (fun S4 h4 => ?_)
  refine wa_aload_n dX1_copyFrom_32 rfl ?_
  refine wa_aload_n dX1_copyFrom_33 rfl ?_
  refine ch_g h4 hn 4 dX1_copyFrom_34 fl_X1_44 (by decide) (fun _ _ _ => rfl) ?_
  refine ch_p h4 hn dX1_copyFrom_37 fl_X1_44 (by decide) rfl rfl rfl rfl (fun _ _ _ _ => rfl) (fun S5 h5 => ?_)
  refine wa_aload_n dX1_copyFrom_40 rfl ?_
  refine wa_aload_n dX1_copyFrom_41 rfl ?_
  refine ch_g h5 hn 5 dX1_copyFrom_42 fl_X1_47 (by decide) (fun _ _ _ => rfl) ?_
  refine ch_p h5 hn dX1_copyFrom_45 fl_X1_47 (by decide) rfl rfl rfl rfl (fun _ _ _ _ => rfl) (fun S6 h6 => ?_)
  refine wa_aload_n dX1_copyFrom_48 rfl ?_
  refine wa_aload_n dX1_copyFrom_49 rfl ?_
  refine ch_g h6 hn 6 dX1_copyFrom_50 fl_X1_50 (by decide) (fun _ _ _ => rfl) ?_
  refine ch_p h6 hn dX1_copyFrom_53 fl_X1_50 (by decide) rfl rfl rfl rfl (fun _ _ _ _ => rfl) (fun S7 h7 => ?_)
  refine wa_aload_n dX1_copyFrom_56 rfl ?_
  refine wa_aload_n dX1_copyFrom_57 rfl ?_
  refine ch_g h7 hn 7 dX1_copyFrom_58 fl_X1_53 (by decide) (fun _ _ _ => rfl) ?_
  refine ch_p h7 hn dX1_copyFrom_61 fl_X1_53 (by decide) rfl rfl rfl rfl (fun _ _ _ _ => rfl) (fun S8 h8 => ?_)
  refine wa_aload_n dX1_copyFrom_64 rfl ?_
  refine wa_aload_n dX1_copyFrom_65 rfl ?_
  refine ch_g h8 hn 8 dX1_copyFrom_66 fl_X1_56 (by decide) (fun _ _ _ => rfl) ?_
  refine ch_p h8 hn dX1_copyFrom_69 fl_X1_56 (by decide) rfl rfl rfl rfl (fun _ _ _ _ => rfl) (fun S9 h9 => ?_)
  refine wa_aload_n dX1_copyFrom_72 rfl ?_
  refine wa_aload_n dX1_copyFrom_73 rfl ?_
  refine ch_g h9 hn 9 dX1_copyFrom_74 fl_X1_59 (by decide) (fun _ _ _ => rfl) ?_
  refine ch_p h9 hn dX1_copyFrom_77 fl_X1_59 (by decide) rfl rfl rfl rfl (fun _ _ _ _ => rfl) (fun S10 h10 => ?_)
  refine wa_iconst (x := 0) dX1_copyFrom_80 (by decide) ?_
  refine wa_istore_n dX1_copyFrom_81 rfl ?_
  refine lp_hcopy hn h10 h.1.2.1 ((h.n (j := 9) (by decide) (by decide)).trans e0) (fun i hi => ?_) (rn g) 0 S10 (Nat.zero_add _) ⟨congrArg (fun z => z.2) h10.2.1, fun x hx => ⟨rfl, congrFun (congrArg (fun z => z.1) h10.2.1) x⟩, fun i hi => absurd hi (Nat.not_lt_zero _)⟩ (fun S' hl => ?_)
  · obtain ⟨γ, g1, g2, hl⟩ := h.lv hi
    rw [hl.n (w := 5) (by decide), hl.n (w := 6) (by decide), rst_of (g2 trivial) (by decide), rst_of (g2 trivial) (by decide)]
    exact hz i hi
  · refine hcopy_tail hn ha h.H hd (fun S2 h2 => ⟨Nat.le_refl _, Nat.le_refl _, rfl, rfl, rfl, S2, rfl, ?_⟩)
    obtain ⟨t1, t2, t3, t4, t5, t6⟩ := h2
    have h66 := h.1.2.1
    obtain ⟨l1, l2, l3⟩ := hl
    have src : ∀ o, o < 23 → S'.1 (q + o) = S.1 (q + o) := fun o ho => ((l2 _ (by omega)).1).trans (h10.2.2.1 _ (by omega))
    have h20 := h.1.2.2
    refine ⟨⟨⟨ha, h.1.2.1, h20⟩, fun j hj hj2 => ?_, fun k hk => ?_, fun i hi => ?_⟩, ⟨(congrArg (fun z => z.2) t1).trans l1, fun x hx => ⟨(t2 x (by omega) (by omega) (by omega) (by omega)).trans (((l2 x (by omega)).1).trans (h10.2.2.1 x (by omega))), (congrFun (congrArg (fun z => z.1) t1) x).trans (l2 x (by omega)).2⟩⟩, fun i hi => (congrFun (congrArg (fun z => z.1) t1) _).trans (l3 i hi).2.2.2.2⟩
    · rw [t3 j hj]
      by_cases h11 : j = 11
      · subst h11
        rw [if_pos rfl, show S'.1 q = S.1 q from src 0 (by decide)]
        exact h.n hj hj2
      · rw [if_neg h11, (l2 a (by omega)).1, h10.2.2.2 j (by omega)]
        exact h.n hj hj2
    · have hk20 : k < 20 := by omega
      rw [t4 k hk20, t5 k hk20, t6 k hk20, src 2 (by decide), src 3 (by decide), src 4 (by decide)]
      exact h.2.2.1 k hk
    · obtain ⟨γ, g1, g2, g3⟩ := h.2.2.2 i hi
      refine ⟨γ, g1, ?_, g3⟩
      exact ((l3 i hi).RR g2).fr (t2 _ (by omega) (by omega) (by omega) (by omega)) (t2 _ (by omega) (by omega) (by omega) (by omega)) (t2 _ (by omega) (by omega) (by omega) (by omega))

