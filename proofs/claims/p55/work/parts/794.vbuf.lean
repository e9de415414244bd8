/-! ValveRoom: append, truncate, find. Written by program (wip/whole/gen/m794.py) but for the heads. -/
/-- bytes put at the end of a buffer: cell a, its length in slot j of cell b -/
def aps (a b j : Nat) : Nat → List Int32 → SS → SS
  | _, [], S => S
  | m, x :: l, S => aps a b j (m + 1) l (ss (ss S a m x) b j (nI (m + 1)))
def b4 (v : Int32) : List Int32 := [byt v 24, byt v (24 + -8), byt v (24 + -8 + -8), byt v (24 + -8 + -8 + -8)]
theorem aps_app (a b j : Nat) : ∀ (l l' : List Int32) (m : Nat) (S : SS), aps a b j m (l ++ l') S = aps a b j (m + l.length) l' (aps a b j m l S)
  | [], l', m, S => rfl
  | x :: l, l', m, S => by
    show aps a b j (m + 1) (l ++ l') _ = aps a b j (m + (l.length + 1)) l' (aps a b j (m + 1) l _)
    rw [aps_app a b j l l' (m + 1), show m + 1 + l.length = m + (l.length + 1) by omega]
theorem aps_len {a b j : Nat} : ∀ (l : List Int32) (m : Nat) (S : SS), S.1 b j = nI m → (aps a b j m l S).1 b j = nI (m + l.length)
  | [], _, _, h => h
  | x :: l, m, S, h => by
    have q := aps_len (a := a) (b := b) (j := j) l (m + 1) (ss (ss S a m x) b j (nI (m + 1))) (by rw [ss_1, if_pos ⟨rfl, rfl⟩])
    rw [show m + 1 + l.length = m + (x :: l).length by simp; omega] at q
    exact q
theorem put_step {Q : ab_Q} {n m : Nat} {S : SS} {v x : Int32} (hn : 269 ≤ n) (h1 : S.1 1 1 = nI m) (hm : m < 500) (hx : ¬ x < 0) (K : WA RX3 cX3_putFourBytes 3 [] (ab_rm 0 0 0) Q 0 0 3 [some (.ref 1), some (.int v), some (.int (x + -8))] [] n (Hp (ss (ss S 2 m (byt v x)) 1 1 (nI (m + 1))))) : WA RX3 cX3_putFourBytes 3 [] (ab_rm 0 0 0) Q 0 0 3 [some (.ref 1), some (.int v), some (.int (x))] [] n (Hp S) := by
  refine wa_iload_n dX3_putFourBytes_3 rfl ?_
  refine wa_if_lt 48 dX3_putFourBytes_4 rfl (fun c4 => absurd c4 hx) (fun c4 => ?_)
  refine wa_aload_n dX3_putFourBytes_7 rfl ?_
  refine g_PA hn 1 dX3_putFourBytes_8 fl_X3_29 (by decide) (v := .int (nI m)) (congrArg (fun x => some (Value.int x)) h1) ?_
  refine wa_aload_n dX3_putFourBytes_11 rfl ?_
  refine g_PA (by assumption) 0 dX3_putFourBytes_12 fl_X3_9 (by decide) rfl ?_
  refine s_alen isA_text dX3_putFourBytes_15 (by decide) (ltS hn) (v := 500) rfl ?_
  refine wa_icmp_ge 48 dX3_putFourBytes_16 rfl (fun c16 => absurd c16 (Int32.not_le.mpr (show nI m < 500 from nI_lt (b := 500) hm (by decide)))) (fun c16 => ?_)
  refine wa_aload_n dX3_putFourBytes_19 rfl ?_
  refine g_PA (by assumption) 0 dX3_putFourBytes_20 fl_X3_9 (by decide) rfl ?_
  refine wa_aload_n dX3_putFourBytes_23 rfl ?_
  refine g_PA hn 1 dX3_putFourBytes_24 fl_X3_29 (by decide) (v := .int (nI m)) (congrArg (fun x => some (Value.int x)) h1) ?_
  refine wa_iload_n dX3_putFourBytes_27 rfl ?_
  refine wa_iload_n dX3_putFourBytes_28 rfl ?_
  refine wa_ishr dX3_putFourBytes_29 ?_
  refine wa_i2b dX3_putFourBytes_30 ?_
  refine s_bast (j := m) isA_text dX3_putFourBytes_31 (ltS hn) (ix_nI (by omega)) hm ?_
  have h2 : (ss S 2 m (byt v x)).1 1 1 = nI m := by
    rw [ss_1, if_neg (by omega)]
    exact h1
  show WA _ _ _ _ _ _ _ _ _ _ _ _ (Hp (ss S 2 m (byt v x)))
  refine wa_aload_n dX3_putFourBytes_32 rfl ?_
  refine wa_dup dX3_putFourBytes_33 rfl ?_
  refine g_PA hn 1 dX3_putFourBytes_34 fl_X3_29 (by decide) (v := .int (nI m)) (congrArg (fun x => some (Value.int x)) h2) ?_
  refine wa_iconst (x := 1) dX3_putFourBytes_37 (by decide) ?_
  refine wa_iadd dX3_putFourBytes_38 ?_
  rw [nI_1 m]
  refine p_PA hn 1 dX3_putFourBytes_39 fl_X3_29 (by decide) rfl rfl rfl rfl (fun _ _ _ => rfl) (Nat.le_of_ble_eq_true rfl) ?_
  refine wa_iinc (y := (-8)) dX3_putFourBytes_42 rfl (by decide) rfl ?_
  refine wa_goto 3 dX3_putFourBytes_45 rfl ?_
  exact K
theorem ss11 (S : SS) (x : Int32) : (ss S 1 1 x).1 1 1 = x := by rw [ss_1, if_pos ⟨rfl, rfl⟩]
theorem vr_putFour {n m : Nat} {S : SS} (hn : 269 ≤ n) (h1 : S.1 1 1 = nI m) (hm : m + 4 ≤ 500) (v : Int32) : AM yX3_putFourBytes cX3_putFourBytes 3 none [] 0 0 0 [.ref 1, .int v] n (Hp S) (PV n (aps 2 1 1 m (b4 v) S)) := by
  intro has
  change WA RX3 cX3_putFourBytes 3 [] _ _ 0 0 0 [some (.ref 1), some (.int v), none] [] n _
  refine wa_bipush (x := 24) dX3_putFourBytes_0 (by decide) ?_
  refine wa_istore_n dX3_putFourBytes_2 rfl ?_
  refine put_step hn h1 (by omega) (by decide) ?_
  refine put_step hn (ss11 _ _) (by omega) (by decide) ?_
  refine put_step hn (ss11 _ _) (by omega) (by decide) ?_
  refine put_step hn (ss11 _ _) (by omega) (by decide) ?_
  refine wa_iload_n dX3_putFourBytes_3 rfl ?_
  refine wa_if_lt 48 dX3_putFourBytes_4 rfl (fun c4 => ?_) (fun c4 => absurd (by decide) c4)
  exact wa_return dX3_putFourBytes_48 ⟨Nat.le_refl _, Nat.le_refl _, rfl, rfl, rfl, rfl⟩
theorem vr_append_0 {n m : Nat} {S : SS} (hn : 269 ≤ n) (h1 : S.1 1 1 = nI m) (h2 : m ≤ 480) (a b c d e : Int32) : AM yX6_append cX6_append 6 (some .int) [] 1 0 0 [.ref 0, .int a, .int b, .int c, .int d, .int e] n (Hp S) (PI (nI (m + 20)) n (aps 2 1 1 m (b4 a ++ (b4 b ++ (b4 c ++ (b4 d ++ b4 e)))) S)) := by
  intro has
  change WA RX6 cX6_append 6 [] _ _ 0 0 0 [some (.ref 0), some (.int a), some (.int b), some (.int c), some (.int d), some (.int e)] [] n _
  refine wa_aload_n dX6_append_0 rfl ?_
  refine g_VR (by assumption) 0 dX6_append_1 fl_X6_10 (by decide) rfl ?_
  refine g_PA hn 1 dX6_append_4 fl_X6_48 (by decide) (v := .int (nI m)) (congrArg (fun x => some (Value.int x)) h1) ?_
  refine wa_sipush (x := 480) dX6_append_7 (by decide) ?_
  refine wa_icmp_le 23 dX6_append_10 rfl (fun c10 => ?_) (fun c10 => absurd (show nI m ≤ 480 from nI_le (b := 480) h2 (by decide)) c10)
  refine wa_aload_n dX6_append_23 rfl ?_
  refine g_VR (by assumption) 0 dX6_append_24 fl_X6_10 (by decide) rfl ?_
  refine wa_iload_n dX6_append_27 rfl ?_
  refine c_VV dX6_append_28 (vr_putFour (S := S) (m := m + 0) hn h1 (by omega) a) lk_X6_58 rfl (isO_PA _ _ _) rfl (ltS hn) ?_
  have e1 : (aps 2 1 1 (m + 0) (b4 a) S).1 1 1 = nI (m + 4) := aps_len (b4 a) (m + 0) _ h1
  generalize eT1 : aps 2 1 1 (m + 0) (b4 a) S = T1 at e1
  refine wa_aload_n dX6_append_31 rfl ?_
  refine g_VR (by assumption) 0 dX6_append_32 fl_X6_10 (by decide) rfl ?_
  refine wa_iload_n dX6_append_35 rfl ?_
  refine c_VV dX6_append_36 (vr_putFour (S := T1) (m := m + 4) hn e1 (by omega) b) lk_X6_58 rfl (isO_PA _ _ _) rfl (ltS hn) ?_
  have e2 : (aps 2 1 1 (m + 4) (b4 b) T1).1 1 1 = nI (m + 8) := aps_len (b4 b) (m + 4) _ e1
  generalize eT2 : aps 2 1 1 (m + 4) (b4 b) T1 = T2 at e2
  refine wa_aload_n dX6_append_39 rfl ?_
  refine g_VR (by assumption) 0 dX6_append_40 fl_X6_10 (by decide) rfl ?_
  refine wa_iload_n dX6_append_43 rfl ?_
  refine c_VV dX6_append_44 (vr_putFour (S := T2) (m := m + 8) hn e2 (by omega) c) lk_X6_58 rfl (isO_PA _ _ _) rfl (ltS hn) ?_
  have e3 : (aps 2 1 1 (m + 8) (b4 c) T2).1 1 1 = nI (m + 12) := aps_len (b4 c) (m + 8) _ e2
  generalize eT3 : aps 2 1 1 (m + 8) (b4 c) T2 = T3 at e3
  refine wa_aload_n dX6_append_47 rfl ?_
  refine g_VR (by assumption) 0 dX6_append_48 fl_X6_10 (by decide) rfl ?_
  refine wa_iload dX6_append_51 rfl ?_
  refine c_VV dX6_append_53 (vr_putFour (S := T3) (m := m + 12) hn e3 (by omega) d) lk_X6_58 rfl (isO_PA _ _ _) rfl (ltS hn) ?_
  have e4 : (aps 2 1 1 (m + 12) (b4 d) T3).1 1 1 = nI (m + 16) := aps_len (b4 d) (m + 12) _ e3
  generalize eT4 : aps 2 1 1 (m + 12) (b4 d) T3 = T4 at e4
  refine wa_aload_n dX6_append_56 rfl ?_
  refine g_VR (by assumption) 0 dX6_append_57 fl_X6_10 (by decide) rfl ?_
  refine wa_iload dX6_append_60 rfl ?_
  refine c_VV dX6_append_62 (vr_putFour (S := T4) (m := m + 16) hn e4 (by omega) e) lk_X6_58 rfl (isO_PA _ _ _) rfl (ltS hn) ?_
  have e5 : (aps 2 1 1 (m + 16) (b4 e) T4).1 1 1 = nI (m + 20) := aps_len (b4 e) (m + 16) _ e4
  generalize eT5 : aps 2 1 1 (m + 16) (b4 e) T4 = T5 at e5
  refine wa_aload_n dX6_append_65 rfl ?_
  refine g_VR (by assumption) 0 dX6_append_66 fl_X6_10 (by decide) rfl ?_
  refine g_PA hn 1 dX6_append_69 fl_X6_48 (by decide) (v := .int (nI (m + 20))) (congrArg (fun x => some (Value.int x)) e5) ?_
  exact wa_ireturn dX6_append_72 ⟨Nat.le_refl _, Nat.le_refl _, ⟨_, rfl, rfl⟩, rfl, rfl, congrArg Hp (by rw [aps_app, aps_app, aps_app, aps_app, ← eT5, ← eT4, ← eT3, ← eT2, ← eT1]; rfl)⟩
theorem vr_truncate_0 {n : Nat} {S : SS} (hn : 269 ≤ n) (x : Int32) (h1 : inr x 0 (S.1 1 1)) : AM yX6_truncate cX6_truncate 2 none [] 1 0 0 [.ref 0, .int x] n (Hp S) (PV n (ss S 1 1 x)) := by
  intro has
  change WA RX6 cX6_truncate 2 [] _ _ 0 0 0 [some (.ref 0), some (.int x)] [] n _
  refine wa_iload_n dX6_truncate_0 rfl ?_
  refine wa_iconst (x := 0) dX6_truncate_1 (by decide) ?_
  refine wa_aload_n dX6_truncate_2 rfl ?_
  refine g_VR (by assumption) 0 dX6_truncate_3 fl_X6_10 (by decide) rfl ?_
  refine g_PA hn 1 dX6_truncate_6 fl_X6_48 (by decide) rfl ?_
  refine c_SV dX6_truncate_9 (vr_range h1.1 h1.2) lk_X6_62 rfl ?_
  refine wa_aload_n dX6_truncate_12 rfl ?_
  refine g_VR (by assumption) 0 dX6_truncate_13 fl_X6_10 (by decide) rfl ?_
  refine wa_iload_n dX6_truncate_16 rfl ?_
  refine p_PA hn 1 dX6_truncate_17 fl_X6_48 (by decide) rfl rfl rfl rfl (fun _ _ _ => rfl) (Nat.le_of_ble_eq_true rfl) ?_
  exact wa_return dX6_truncate_20 ⟨Nat.le_refl _, Nat.le_refl _, rfl, rfl, rfl, rfl⟩
/-- a name's number -/
def nN (f : Nat → Int32) (p : Nat) : Nat → Nat
  | 0 => 0
  | k + 1 => 27 * nN f p k + ((f (p + k)).toInt.toNat - 96)
def LET (f : Nat → Int32) (p l : Nat) : Prop := ∀ j, j < l → 97 ≤ (f (p + j)).toInt ∧ (f (p + j)).toInt ≤ 122
theorem nN_lt {f : Nat → Int32} {p : Nat} : ∀ k, LET f p k → nN f p k < 27 ^ k ∧ (0 < k → 27 ^ (k - 1) ≤ nN f p k)
  | 0, _ => ⟨by show 0 < 27 ^ 0; decide, fun h => absurd h (by decide)⟩
  | k + 1, h => by
    obtain ⟨h1, h2⟩ := nN_lt k (fun j hj => h j (by omega))
    have h3 := h k (by omega)
    show 27 * nN f p k + ((f (p + k)).toInt.toNat - 96) < 27 ^ (k + 1) ∧ (0 < k + 1 → 27 ^ (k + 1 - 1) ≤ 27 * nN f p k + ((f (p + k)).toInt.toNat - 96))
    rw [Nat.pow_succ]
    refine ⟨by omega, fun _ => ?_⟩
    rw [Nat.add_sub_cancel]
    cases k with
    | zero => rw [Nat.pow_zero]; omega
    | succ k =>
      have h4 := h2 (by omega)
      rw [Nat.add_sub_cancel] at h4
      rw [Nat.pow_succ]
      omega
theorem pow27 {k : Nat} (h : k ≤ 6) : 27 ^ k ≤ 387420489 := Nat.pow_le_pow_right (n := 27) (by decide) h
theorem nmo_nN {f : Nat → Int32} {p : Nat} : ∀ k, k ≤ 6 → LET f p k → nmo f p k = nI (nN f p k)
  | 0, _, _ => rfl
  | k + 1, hk, h => by
    have h1 := nmo_nN k (by omega) (fun j hj => h j (by omega))
    have h2 := (nN_lt k (fun j hj => h j (by omega))).1
    have h3 := h k (by omega)
    have h5 := pow27 (k := k) (by omega)
    show 27 * nmo f p k + f (p + k) - 96 = nI (27 * nN f p k + ((f (p + k)).toInt.toNat - 96))
    rw [h1, (nI_of_nn (x := f (p + k)) (by omega)).1]
    have e : (nI (f (p + k)).toInt.toNat).toInt.toNat = (f (p + k)).toInt.toNat := by rw [nI_toInt (by omega)]; rfl
    rw [e, show (27 : Int32) = nI 27 from rfl, nI_mul, nI_add, show (96 : Int32) = nI 96 from rfl, nI_sub (by omega), show 27 * nN f p k + (f (p + k)).toInt.toNat - 96 = 27 * nN f p k + ((f (p + k)).toInt.toNat - 96) by omega]
theorem nN_inj {f f' : Nat → Int32} {p p' : Nat} : ∀ k k', LET f p k → LET f' p' k' → nN f p k = nN f' p' k' → k = k' ∧ ∀ j, j < k → f (p + j) = f' (p' + j)
  | 0, 0, _, _, _ => ⟨rfl, fun j hj => absurd hj (by omega)⟩
  | 0, k' + 1, _, h', e => by
    have h3 := h' k' (by omega)
    have e2 : 0 = 27 * nN f' p' k' + ((f' (p' + k')).toInt.toNat - 96) := e
    omega
  | k + 1, 0, h, _, e => by
    have h3 := h k (by omega)
    have e2 : 27 * nN f p k + ((f (p + k)).toInt.toNat - 96) = 0 := e
    omega
  | k + 1, k' + 1, h, h', e => by
    have h3 := h k (by omega)
    have h4 := h' k' (by omega)
    have e2 : 27 * nN f p k + ((f (p + k)).toInt.toNat - 96) = 27 * nN f' p' k' + ((f' (p' + k')).toInt.toNat - 96) := e
    obtain ⟨q1, q2⟩ := nN_inj k k' (fun j hj => h j (by omega)) (fun j hj => h' j (by omega)) (by omega)
    subst q1
    refine ⟨rfl, fun j hj => ?_⟩
    by_cases ej : j = k
    · subst ej
      exact Int32.toInt_inj.mp (by omega)
    · exact q2 j (by omega)
theorem nmo_inj {f f' : Nat → Int32} {p p' k k' : Nat} (hk : k ≤ 6) (hk' : k' ≤ 6) (h : LET f p k) (h' : LET f' p' k') : nmo f p k = nmo f' p' k' ↔ k = k' ∧ ∀ j, j < k' → f (p + j) = f' (p' + j) := by
  have a1 := (nN_lt k h).1
  have a2 := (nN_lt k' h').1
  have b1 := pow27 hk
  have b2 := pow27 hk'
  rw [nmo_nN k hk h, nmo_nN k' hk' h']
  constructor
  · intro e
    obtain ⟨q1, q2⟩ := nN_inj k k' h h' (nI_inj (by omega) (by omega) e)
    exact ⟨q1, fun j hj => q2 j (by omega)⟩
  · rintro ⟨e, q⟩
    subst e
    have : ∀ m, m ≤ k → nN f p m = nN f' p' m := by
      intro m
      induction m with
      | zero => intro _; rfl
      | succ m ih =>
        intro hm
        show 27 * nN f p m + ((f (p + m)).toInt.toNat - 96) = 27 * nN f' p' m + ((f' (p' + m)).toInt.toNat - 96)
        rw [ih (by omega), q m (by omega)]
    rw [this k (Nat.le_refl _)]
theorem nmo_pos {f : Nat → Int32} {p k : Nat} (hk : k ≤ 6) (h0 : 0 < k) (h : LET f p k) : 0 < nmo f p k := by
  obtain ⟨h1, h2⟩ := nN_lt k h
  have h3 := h2 h0
  have := pow27 hk
  have : 0 < 27 ^ (k - 1) := Nat.pow_pos (by decide)
  rw [nmo_nN k hk h, Int32.lt_iff_toInt_lt, nI_toInt (by omega), Int32.toInt_zero]
  omega
theorem fst_cg {p q : Nat → Prop} [DecidablePred p] [DecidablePred q] : ∀ (r k : Nat), (∀ i, k ≤ i → i < k + r → (p i ↔ q i)) → fst p r k = fst q r k
  | 0, _, _ => rfl
  | r + 1, k, h => by
    show (if p k then nI k else fst p r (k + 1)) = if q k then nI k else fst q r (k + 1)
    rw [fst_cg r (k + 1) (fun i h1 h2 => h i (by omega) (by omega))]
    by_cases e : p k
    · rw [if_pos e, if_pos ((h k (by omega) (by omega)).mp e)]
    · rw [if_neg e, if_neg (fun z => e ((h k (by omega) (by omega)).mpr z))]
/-- the names of a row's rooms, as letters -/
def NMR (g : Nat → Int32) (nf : Nat → Nat → Int32) (nl : Nat → Nat) : Prop := ∀ i, i < rn g → LET (nf i) 0 (nl i) ∧ 1 ≤ nl i ∧ nl i ≤ 6 ∧ of g i 11 = nmo (nf i) 0 (nl i)
theorem spl_nm {g : Nat → Int32} {nf : Nat → Nat → Int32} {nl : Nat → Nat} {f : Nat → Int32} {p l i : Nat} (h : NMR g nf nl) (hi : i < rn g) (hl : l ≤ 6) (hL : LET f p l) : SPL f p l (nf i) (nl i) ↔ of g i 11 = nmo f p l := by
  obtain ⟨h1, h2, h3, h4⟩ := h i hi
  rw [h4]
  constructor
  · rintro ⟨e, q⟩
    exact ((nmo_inj hl h3 hL h1).mpr ⟨e, fun j hj => (q j hj).trans (congrArg (nf i) (Nat.zero_add j).symm)⟩).symm
  · intro e
    obtain ⟨q1, q2⟩ := (nmo_inj hl h3 hL h1).mp e.symm
    exact ⟨q1, fun j hj => (q2 j hj).trans (congrArg (nf i) (Nat.zero_add j))⟩
