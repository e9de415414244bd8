/-! ValveRoomModel: copies of its row. Written by program (wip/whole/gen/m550.py) but for the heads. -/
theorem wa_cg {Xx : ab_X} {own : String} {cc : ByteArray} {nL : Nat} {hh : List (Nat × Nat × Nat × Nat)} {R : Room} {Q : ab_Q} {k z pc : Nat} {ls : List (Option Value)} {st : List Value} {n : Nat} {S1 S2 : SS} (e : S1 = S2) (h : WX Xx own cc nL hh R Q k z pc ls st n (Hp S1)) : WX Xx own cc nL hh R Q k z pc ls st n (Hp S2) := e ▸ h
/-- a row with its first m numbers those of another -/
def cp (a b : Nat → Int32) (m : Nat) : Nat → Int32 := fun j => if j < m then b j else a j
theorem cp_0 (a b : Nat → Int32) : cp a b 0 = a := rfl
theorem cp_s (a b : Nat → Int32) (m : Nat) : upd (cp a b m) m (b m) = cp a b (m + 1) := by
  funext j
  unfold upd cp
  by_cases h : j = m
  · rw [if_pos h, if_pos (by omega), h]
  · rw [if_neg h]
    by_cases h2 : j < m
    · rw [if_pos h2, if_pos (by omega)]
    · rw [if_neg h2, if_neg (by omega)]
/-- cell a's numbers from o on are the first m of b -/
def cpo (a b : Nat → Int32) (o m : Nat) : Nat → Int32 := fun j => if o ≤ j ∧ j < o + m then b (j - o) else a j
theorem cpo_0 (a b : Nat → Int32) (o : Nat) : cpo a b o 0 = a := by
  funext j
  exact if_neg (by omega)
theorem cpo_s (a b : Nat → Int32) (o m : Nat) : upd (cpo a b o m) (o + m) (b m) = cpo a b o (m + 1) := by
  funext j
  unfold upd cpo
  by_cases h : j = o + m
  · rw [if_pos h, if_pos (by omega), h]; congr 1; omega
  · rw [if_neg h]
    by_cases h2 : o ≤ j ∧ j < o + m
    · rw [if_pos h2, if_pos (by omega)]
    · rw [if_neg h2, if_neg (by omega)]
theorem su_a (S : SS) (a : Nat) (f : Nat → Int32) (j : Nat) (x : Int32) : ss (su S a f) a j x = su S a (upd f j x) := ss_su S a j f x
theorem ix_nI {k : Nat} (h : k < 2 ^ 31) : (nI k).toInt = (k : Int) := nI_toInt h
theorem lp_aside {Q : ab_Q} {n : Nat} {S : SS} (f : Nat → Int32) (hn : 279 ≤ n) (hQ : Q (.inl none) 0 0 n (Hp (su S 270 (cp f (S.1 268) 467)))) :
    ∀ (r k : Nat), k + r = 467 → WA RX7 cX7_keepAside 2 [] (ab_rm 0 0 0) Q 0 0 2 [some (.ref 267), some (.int (nI k))] [] n (Hp (su S 270 (cp f (S.1 268) k))) := by
  intro r
  induction r with
  | zero =>
    intro k hk
    have hk' : 467 = k := by omega
    
    have hk2 : k = 467 := by omega
    subst hk2
    refine wa_iload_n dX7_keepAside_2 rfl ?_
    refine wa_sipush (x := 467) dX7_keepAside_3 (by decide) ?_
    refine wa_icmp_ge 27 dX7_keepAside_6 rfl (fun c6 => ?_) (fun c6 => absurd (nI_le (a := 467) (Nat.le_refl _) (by omega)) c6)
    exact wa_return dX7_keepAside_27 hQ
  | succ r ih =>
    intro k hk
    have e : (su S 270 (cp f (S.1 268) k)).1 268 k = S.1 268 k := by rw [su_n S _ (by decide)]
    refine wa_iload_n dX7_keepAside_2 rfl ?_
    refine wa_sipush (x := 467) dX7_keepAside_3 (by decide) ?_
    refine wa_icmp_ge 27 dX7_keepAside_6 rfl (fun c6 => absurd c6 (nI_ge (a := k) (b := 467) (by omega) (by omega))) (fun c6 => ?_)
    refine wa_aload_n dX7_keepAside_9 rfl ?_
    refine g_MO (by assumption) 4 dX7_keepAside_10 fl_X7_27 (by decide) rfl ?_
    refine wa_iload_n dX7_keepAside_13 rfl ?_
    refine wa_aload_n dX7_keepAside_14 rfl ?_
    refine g_MO (by assumption) 1 dX7_keepAside_15 fl_X7_17 (by decide) rfl ?_
    refine wa_iload_n dX7_keepAside_18 rfl ?_
    refine s_iald (j := k) isA_net dX7_keepAside_19 (ltS (by assumption)) (ix_nI (by omega)) (by omega) ?_
    rw [e]
    refine s_iast (j := k) isA_aside dX7_keepAside_20 (ltS (by assumption)) (ix_nI (by omega)) (by omega) ?_
    rw [su_a, cp_s]
    refine wa_iinc (y := 1) dX7_keepAside_21 rfl (by decide) rfl ?_
    refine wa_goto 2 dX7_keepAside_24 rfl ?_
    rw [nI_1 k]
    exact ih (k + 1) (by omega)
theorem lp_back {Q : ab_Q} {n : Nat} {S : SS} (f : Nat → Int32) (hn : 279 ≤ n) (x : Int32) (hQ : Q (.inl (some (.int x))) 0 0 n (Hp (su S 268 (cp f (S.1 270) 467)))) :
    ∀ (r k : Nat), k + r = 467 → WA RX7 cX7_layBack 3 [] (ab_rm 0 0 0) Q 0 0 2 [some (.ref 267), some (.int x), some (.int (nI k))] [] n (Hp (su S 268 (cp f (S.1 270) k))) := by
  intro r
  induction r with
  | zero =>
    intro k hk
    have hk' : 467 = k := by omega
    
    have hk2 : k = 467 := by omega
    subst hk2
    refine wa_iload_n dX7_layBack_2 rfl ?_
    refine wa_sipush (x := 467) dX7_layBack_3 (by decide) ?_
    refine wa_icmp_ge 27 dX7_layBack_6 rfl (fun c6 => ?_) (fun c6 => absurd (nI_le (a := 467) (Nat.le_refl _) (by omega)) c6)
    refine wa_iload_n dX7_layBack_27 rfl ?_
    exact wa_ireturn dX7_layBack_28 hQ
  | succ r ih =>
    intro k hk
    have e : (su S 268 (cp f (S.1 270) k)).1 270 k = S.1 270 k := by rw [su_n S _ (by decide)]
    refine wa_iload_n dX7_layBack_2 rfl ?_
    refine wa_sipush (x := 467) dX7_layBack_3 (by decide) ?_
    refine wa_icmp_ge 27 dX7_layBack_6 rfl (fun c6 => absurd c6 (nI_ge (a := k) (b := 467) (by omega) (by omega))) (fun c6 => ?_)
    refine wa_aload_n dX7_layBack_9 rfl ?_
    refine g_MO (by assumption) 1 dX7_layBack_10 fl_X7_17 (by decide) rfl ?_
    refine wa_iload_n dX7_layBack_13 rfl ?_
    refine wa_aload_n dX7_layBack_14 rfl ?_
    refine g_MO (by assumption) 4 dX7_layBack_15 fl_X7_27 (by decide) rfl ?_
    refine wa_iload_n dX7_layBack_18 rfl ?_
    refine s_iald (j := k) isA_aside dX7_layBack_19 (ltS (by assumption)) (ix_nI (by omega)) (by omega) ?_
    rw [e]
    refine s_iast (j := k) isA_net dX7_layBack_20 (ltS (by assumption)) (ix_nI (by omega)) (by omega) ?_
    rw [su_a, cp_s]
    refine wa_iinc (y := 1) dX7_layBack_21 rfl (by decide) rfl ?_
    refine wa_goto 2 dX7_layBack_24 rfl ?_
    rw [nI_1 k]
    exact ih (k + 1) (by omega)
def f_aside (S : SS) : SS := su S 270 (cp (S.1 270) (S.1 268) 467)
def f_back (S : SS) : SS := su S 268 (cp (S.1 268) (S.1 270) 467)
theorem su_id (S : SS) (a : Nat) (b : Nat → Int32) : su S a (cp (S.1 a) b 0) = S := su_self S a
theorem mm_keepAside {n : Nat} {S : SS} (hn : 279 ≤ n) : AM yX7_keepAside cX7_keepAside 2 none [] 0 0 0 [.ref 267] n (Hp S) (PV n (f_aside S)) := by
  intro has
  change WA RX7 cX7_keepAside 2 [] _ _ 0 0 0 [some (.ref 267), none] [] n _
  refine wa_iconst (x := 0) dX7_keepAside_0 (by decide) ?_
  refine wa_istore_n dX7_keepAside_1 rfl ?_
  refine wa_cg (su_id S 270 (S.1 268)) ?_
  exact lp_aside (S := S) (S.1 270) hn ⟨Nat.le_refl _, Nat.le_refl _, rfl, rfl, rfl, rfl⟩ 467 0 (Nat.zero_add _)
theorem mm_layBack {n : Nat} {S : SS} (hn : 279 ≤ n) (x : Int32) : AM yX7_layBack cX7_layBack 3 (some .int) [] 0 0 0 [.ref 267, .int x] n (Hp S) (PI x n (f_back S)) := by
  intro has
  change WA RX7 cX7_layBack 3 [] _ _ 0 0 0 [some (.ref 267), some (.int x), none] [] n _
  refine wa_iconst (x := 0) dX7_layBack_0 (by decide) ?_
  refine wa_istore_n dX7_layBack_1 rfl ?_
  refine wa_cg (su_id S 268 (S.1 270)) ?_
  exact lp_back (S := S) (S.1 268) hn x ⟨Nat.le_refl _, Nat.le_refl _, ⟨_, rfl, rfl⟩, rfl, rfl, rfl⟩ 467 0 (Nat.zero_add _)
def lackN (g : Nat → Int32) (i : Nat) : Nat → Int32
  | 0 => 0
  | k + 1 => lackN g i k + i_max 0 (mis (ticksN g (k + 1)) i)
theorem lp_lack {Q : ab_Q} {n N i : Nat} {S : SS} {T : Int} (g : Nat → Int32) (hn : 279 ≤ n) (hi : i < 6) (hN : N < 2147483647) (hV : VG T g) (hT : T + N < 2147483648) (hQ : Q (.inl (some (.int (lackN g i N)))) 0 0 n (Hp (md (fun _ => ticksN g N) S))) :
    ∀ (r k : Nat), k + r = N → WA RX7 cX7_lackOf 5 [] (ab_rm 8 0 0) Q 0 0 5 [some (.ref 267), some (.int (nI i)), some (.int (nI N)), some (.int (lackN g i k)), some (.int (nI k))] [] n (Hp (md (fun _ => ticksN g k) S)) := by
  intro r
  induction r with
  | zero =>
    intro k hk
    have hk' : N = k := by omega
    subst hk'

    refine wa_iload dX7_lackOf_5 rfl ?_
    refine wa_iload_n dX7_lackOf_7 rfl ?_
    refine wa_icmp_ge 40 dX7_lackOf_8 rfl (fun c8 => ?_) (fun c8 => absurd (nI_le (Nat.le_refl _) (by omega)) c8)
    refine wa_iload_n dX7_lackOf_40 rfl ?_
    exact wa_ireturn dX7_lackOf_41 hQ
  | succ r ih =>
    intro k hk
    have eV : VG (T + k) (row (md (fun _ => ticksN g k) S)) := by rw [md_row]; exact VG_ticks hV k (by omega)
    have eV2 := VG_ticks hV (k + 1) (by omega)
    have eP : PT (pg (row (md (fun _ => f_tick (ticksN g k)) S)) i) := by rw [md_row]; exact eV2.2.2.2.2 i
    have eT : 0 ≤ (row (md (fun _ => f_tick (ticksN g k)) S) 1).toInt := by rw [md_row]; exact eV2.1.1
    refine wa_iload dX7_lackOf_5 rfl ?_
    refine wa_iload_n dX7_lackOf_7 rfl ?_
    refine wa_icmp_ge 40 dX7_lackOf_8 rfl (fun c8 => absurd c8 (nI_ge (a := k) (b := N) (by omega) (by omega))) (fun c8 => ?_)
    refine wa_aload_n dX7_lackOf_11 rfl ?_
    refine c_VV dX7_lackOf_12 (mm_tickOnce (by assumption) eV (by omega)) lk_X7_144 rfl (isO_MO _ _ _) rfl (ltS (by assumption)) ?_
    rw [md_c]
    refine wa_iload_n dX7_lackOf_15 rfl ?_
    refine wa_iconst (x := 0) dX7_lackOf_16 (by decide) ?_
    refine wa_aload_n dX7_lackOf_17 rfl ?_
    refine wa_iload_n dX7_lackOf_18 rfl ?_
    refine c_VI dX7_lackOf_19 (mm_targetOf (i := i) (by assumption) hi eP eT) lk_X7_78 rfl (isO_MO _ _ _) rfl (ltS (by assumption)) ?_
    refine wa_aload_n dX7_lackOf_22 rfl ?_
    refine wa_iload_n dX7_lackOf_23 rfl ?_
    refine wa_iconst (x := 0) dX7_lackOf_24 (by decide) ?_
    refine c_VI dX7_lackOf_25 (mm_of2 (w := 0) (by assumption) hi (by decide)) lk_X7_68 rfl (isO_MO _ _ _) rfl (ltS (by assumption)) ?_
    rw [md_row]
    refine wa_isub dX7_lackOf_28 ?_
    refine c_SI dX7_lackOf_29 (am_max _ _) lk_X7_150 rfl ?_
    refine wa_iadd dX7_lackOf_32 ?_
    refine wa_istore_n dX7_lackOf_33 rfl ?_
    refine wa_iinc (y := 1) dX7_lackOf_34 rfl (by decide) rfl ?_
    refine wa_goto 5 dX7_lackOf_37 rfl ?_
    rw [nI_1 k]
    exact ih (k + 1) (by omega)
theorem mm_lackOf {n N i : Nat} {S : SS} {T : Int} (hn : 279 ≤ n) (hi : i < 6) (hN : N < 2147483647) (hV : VG T (row S)) (hT : T + N < 2147483648) : AM yX7_lackOf cX7_lackOf 5 (some .int) [] 8 0 0 [.ref 267, .int (nI i), .int (nI N)] n (Hp S) (PI (lackN (row S) i N) n (md (fun g => ticksN g N) S)) := by
  intro has
  change WA RX7 cX7_lackOf 5 [] _ _ 0 0 0 [some (.ref 267), some (.int (nI i)), some (.int (nI N)), none, none] [] n _
  refine wa_iconst (x := 0) dX7_lackOf_0 (by decide) ?_
  refine wa_istore_n dX7_lackOf_1 rfl ?_
  refine wa_iconst (x := 0) dX7_lackOf_2 (by decide) ?_
  refine wa_istore dX7_lackOf_3 rfl ?_
  refine wa_cg (md_self S) ?_
  exact lp_lack (S := S) (row S) hn hi hN hV hT ⟨Nat.le_refl _, Nat.le_refl _, ⟨_, rfl, rfl⟩, rfl, rfl, rfl⟩ N 0 (Nat.zero_add _)
theorem e467 (k : Nat) : nI (467 + k) - 467 = nI k := by
  have e : (467 : Int32) = nI 467 := by decide
  rw [e, nI_sub (by omega), show 467 + k - 467 = k by omega]
def f_shift (f : Nat → Int32) (m : Nat) : Nat → Int32 := fun j => if j + 467 < m then f (j + 467) else f j
theorem shift_s (f : Nat → Int32) {m : Nat} (h : 467 ≤ m) : upd (f_shift f m) (m - 467) (f m) = f_shift f (m + 1) := by
  funext j
  unfold upd f_shift
  by_cases e : j = m - 467
  · rw [if_pos e, if_pos (by omega)]; congr 1; omega
  · rw [if_neg e]
    by_cases h2 : j + 467 < m
    · rw [if_pos h2, if_pos (by omega)]
    · rw [if_neg h2, if_neg (by omega)]
theorem shift_0 (f : Nat → Int32) : f_shift f 467 = f := by
  funext j
  unfold f_shift
  rw [if_neg (by omega)]
theorem shift_at (f : Nat → Int32) {m : Nat} (h : 467 ≤ m) : f_shift f m m = f m := by
  unfold f_shift
  rw [if_neg (by omega)]
theorem lp_shift {Q : ab_Q} {n : Nat} {S : SS} (f : Nat → Int32) (hn : 279 ≤ n) (hQ : ∀ l1, WA RX7 cX7_remember 2 [] (ab_rm 0 0 0) Q 0 0 42 [some (.ref 267), l1] [] n (Hp (su S 275 (f_shift f 2802)))) :
    ∀ (r k : Nat), k + r = 2335 → WA RX7 cX7_remember 2 [] (ab_rm 0 0 0) Q 0 0 13 [some (.ref 267), some (.int (nI (467 + k)))] [] n (Hp (su S 275 (f_shift f (467 + k)))) := by
  intro r
  induction r with
  | zero =>
    intro k hk
    have hk' : 2335 = k := by omega
    
    have hk2 : k = 2335 := by omega
    subst hk2
    refine wa_iload_n dX7_remember_13 rfl ?_
    refine wa_sipush (x := 2802) dX7_remember_14 (by decide) ?_
    refine wa_icmp_ge 42 dX7_remember_17 rfl (fun c17 => ?_) (fun c17 => absurd (nI_le (a := 2802) (Nat.le_refl _) (by omega)) c17)
    exact hQ _
  | succ r ih =>
    intro k hk
    have e : (su S 275 (f_shift f (467 + k))).1 275 (467 + k) = f (467 + k) := by rw [su_s]; exact shift_at f (by omega)
    have e2 : upd (f_shift f (467 + k)) k (f (467 + k)) = f_shift f (467 + (k + 1)) := by
      have := shift_s f (m := 467 + k) (by omega)
      rw [show 467 + k - 467 = k by omega] at this
      exact this
    refine wa_iload_n dX7_remember_13 rfl ?_
    refine wa_sipush (x := 2802) dX7_remember_14 (by decide) ?_
    refine wa_icmp_ge 42 dX7_remember_17 rfl (fun c17 => absurd c17 (nI_ge (a := 467 + k) (b := 2802) (by omega) (by omega))) (fun c17 => ?_)
    refine wa_aload_n dX7_remember_20 rfl ?_
    refine g_MO (by assumption) 17 dX7_remember_21 fl_X7_47 (by decide) rfl ?_
    refine wa_iload_n dX7_remember_24 rfl ?_
    refine wa_sipush (x := 467) dX7_remember_25 (by decide) ?_
    refine wa_isub dX7_remember_28 ?_
    rw [e467 k]
    refine wa_aload_n dX7_remember_29 rfl ?_
    refine g_MO (by assumption) 17 dX7_remember_30 fl_X7_47 (by decide) rfl ?_
    refine wa_iload_n dX7_remember_33 rfl ?_
    refine s_iald (j := 467 + k) isA_mpast dX7_remember_34 (ltS (by assumption)) (ix_nI (by omega)) (by omega) ?_
    rw [e]
    refine s_iast (j := k) isA_mpast dX7_remember_35 (ltS (by assumption)) (ix_nI (by omega)) (by omega) ?_
    rw [su_a, e2]
    refine wa_iinc (y := 1) dX7_remember_36 rfl (by decide) rfl ?_
    refine wa_goto 13 dX7_remember_39 rfl ?_
    rw [nI_1 (467 + k)]
    exact ih (k + 1) (by omega)
theorem lp_rem {Q : ab_Q} {n m : Nat} {S : SS} (f : Nat → Int32) (hn : 279 ≤ n) (hm : m < 6) (h18 : S.1 267 18 = nI m) (hQ : ∀ l1, WA RX7 cX7_remember 2 [] (ab_rm 0 0 0) Q 0 0 88 [some (.ref 267), l1] [] n (Hp (su S 275 (cpo f (S.1 268) (467 * m) 467)))) :
    ∀ (r k : Nat), k + r = 467 → WA RX7 cX7_remember 2 [] (ab_rm 0 0 0) Q 0 0 54 [some (.ref 267), some (.int (nI k))] [] n (Hp (su S 275 (cpo f (S.1 268) (467 * m) k))) := by
  intro r
  induction r with
  | zero =>
    intro k hk
    have hk' : 467 = k := by omega
    
    have hk2 : k = 467 := by omega
    subst hk2
    refine wa_iload_n dX7_remember_54 rfl ?_
    refine wa_sipush (x := 467) dX7_remember_55 (by decide) ?_
    refine wa_icmp_ge 88 dX7_remember_58 rfl (fun c58 => ?_) (fun c58 => absurd (nI_le (a := 467) (Nat.le_refl _) (by omega)) c58)
    exact hQ _
  | succ r ih =>
    intro k hk
    have e : (su S 275 (cpo f (S.1 268) (467 * m) k)).1 268 k = S.1 268 k := by rw [su_n S _ (by decide)]
    have e18 : (su S 275 (cpo f (S.1 268) (467 * m) k)).1 267 18 = nI m := by rw [su_n S _ (by decide)]; exact h18
    refine wa_iload_n dX7_remember_54 rfl ?_
    refine wa_sipush (x := 467) dX7_remember_55 (by decide) ?_
    refine wa_icmp_ge 88 dX7_remember_58 rfl (fun c58 => absurd c58 (nI_ge (a := k) (b := 467) (by omega) (by omega))) (fun c58 => ?_)
    refine wa_aload_n dX7_remember_61 rfl ?_
    refine g_MO (by assumption) 17 dX7_remember_62 fl_X7_47 (by decide) rfl ?_
    refine wa_sipush (x := 467) dX7_remember_65 (by decide) ?_
    refine wa_aload_n dX7_remember_68 rfl ?_
    refine g_MO (by assumption) 18 dX7_remember_69 fl_X7_421 (by decide) rfl ?_
    refine wa_imul dX7_remember_72 ?_
    refine wa_iload_n dX7_remember_73 rfl ?_
    refine wa_iadd dX7_remember_74 ?_
    rw [e18, show (467 : Int32) * nI m = nI (467 * m) from nI_mul 467 m, nI_add (467 * m) k]
    refine wa_aload_n dX7_remember_75 rfl ?_
    refine g_MO (by assumption) 1 dX7_remember_76 fl_X7_17 (by decide) rfl ?_
    refine wa_iload_n dX7_remember_79 rfl ?_
    refine s_iald (j := k) isA_net dX7_remember_80 (ltS (by assumption)) (ix_nI (by omega)) (by omega) ?_
    rw [e]
    refine s_iast (j := 467 * m + k) isA_mpast dX7_remember_81 (ltS (by assumption)) (ix_nI (by omega)) (by omega) ?_
    rw [su_a, cpo_s]
    refine wa_iinc (y := 1) dX7_remember_82 rfl (by decide) rfl ?_
    refine wa_goto 54 dX7_remember_85 rfl ?_
    rw [nI_1 k]
    exact ih (k + 1) (by omega)
