/-! ValveRoomModel: nameOf, roomNamed, find. Written by program (wip/whole/gen/m603.py) but for the heads. -/
/-- a name as a number: its letters from p on, base 27 -/
def nmo (f : Nat → Int32) (p : Nat) : Nat → Int32
  | 0 => 0
  | k + 1 => 27 * nmo f p k + f (p + k) - 96
def rnm (g : Nat → Int32) (x : Int32) : Int32 := fst (fun r => 0 < x ∧ of g r 11 = x) (rn g) 0
theorem lp_nameOf {Q : ab_Q} {n p l : Nat} {S : SS} (hn : 279 ≤ n) (hl : p + l ≤ 500) (hQ : Q (.inl (some (.int (nmo (S.1 271) p l)))) 0 0 n (Hp S)) :
    ∀ (r k : Nat), k + r = l → WA RX7 cX7_nameOf 5 [] (ab_rm 0 0 0) Q 0 0 5 [some (.ref 271), some (.int (nI p)), some (.int (nI (p + l))), some (.int (nmo (S.1 271) p k)), some (.int (nI (p + k)))] [] n (Hp S) := by
  intro r
  induction r with
  | zero =>
    intro k hk
    have hk' : k = l := by omega
    subst hk'

    refine wa_iload dX7_nameOf_5 rfl ?_
    refine wa_iload_n dX7_nameOf_7 rfl ?_
    refine wa_icmp_ge 30 dX7_nameOf_8 rfl (fun c8 => ?_) (fun c8 => absurd (Int32.le_refl _) c8)
    refine wa_iload_n dX7_nameOf_30 rfl ?_
    exact wa_ireturn dX7_nameOf_31 hQ
  | succ r ih =>
    intro k hk

    refine wa_iload dX7_nameOf_5 rfl ?_
    refine wa_iload_n dX7_nameOf_7 rfl ?_
    refine wa_icmp_ge 30 dX7_nameOf_8 rfl (fun c8 => absurd c8 (Int32.not_le.mpr (nI_lt (a := p + k) (b := p + l) (by omega) (by omega)))) (fun c8 => ?_)
    refine wa_bipush (x := 27) dX7_nameOf_11 (by decide) ?_
    refine wa_iload_n dX7_nameOf_13 rfl ?_
    refine wa_imul dX7_nameOf_14 ?_
    refine wa_aload_n dX7_nameOf_15 rfl ?_
    refine wa_iload dX7_nameOf_16 rfl ?_
    refine s_bald (j := p + k) isA_input dX7_nameOf_18 (ltS (by assumption)) (ix_nI (by omega)) (by omega) ?_
    refine wa_iadd dX7_nameOf_19 ?_
    refine wa_bipush (x := 96) dX7_nameOf_20 (by decide) ?_
    refine wa_isub dX7_nameOf_22 ?_
    refine wa_istore_n dX7_nameOf_23 rfl ?_
    refine wa_iinc (y := 1) dX7_nameOf_24 rfl (by decide) rfl ?_
    refine wa_goto 5 dX7_nameOf_27 rfl ?_
    rw [nI_1 (p + k)]
    exact ih (k + 1) (by omega)
theorem mm_nameOf {n p l : Nat} {S : SS} (hn : 279 ≤ n) (hl : p + l ≤ 500) : AM yX7_nameOf cX7_nameOf 5 (some .int) [] 0 0 0 [.ref 271, .int (nI p), .int (nI (p + l))] n (Hp S) (PI (nmo (S.1 271) p l) n S) := by
  intro has
  change WA RX7 cX7_nameOf 5 [] _ _ 0 0 0 [some (.ref 271), some (.int (nI p)), some (.int (nI (p + l))), none, none] [] n _
  refine wa_iconst (x := 0) dX7_nameOf_0 (by decide) ?_
  refine wa_istore_n dX7_nameOf_1 rfl ?_
  refine wa_iload_n dX7_nameOf_2 rfl ?_
  refine wa_istore dX7_nameOf_3 rfl ?_
  exact lp_nameOf (S := S) (p := p) (l := l) hn hl ⟨Nat.le_refl _, Nat.le_refl _, ⟨_, rfl, rfl⟩, rfl, rfl, rfl⟩ l 0 (Nat.zero_add _)
theorem lp_rnm {Q : ab_Q} {n : Nat} {S : SS} {T : Int} {x v : Int32} (hn : 279 ≤ n) (hV : VG T (row S)) (hQ : Q (.inl (some (.int v))) 0 0 n (Hp S)) :
    ∀ (r k : Nat), k + r = rn (row S) → fst (fun r => 0 < x ∧ of (row S) r 11 = x) r k = v → WA RX7 cX7_roomNamed 3 [] (ab_rm 1 0 0) Q 0 0 2 [some (.ref 267), some (.int x), some (.int (nI (k)))] [] n (Hp S) := by
  intro r
  induction r with
  | zero =>
    intro k hk
    have hk' : rn (row S) = k := by omega
    
    intro he
    have hk2 : k = rn (row S) := hk'.symm
    refine wa_iload_n dX7_roomNamed_2 rfl ?_
    refine wa_aload_n dX7_roomNamed_3 rfl ?_
    refine c_VI dX7_roomNamed_4 (mm_rooms hn) lk_X7_56 rfl (isO_MO _ _ _) rfl (ltS (by assumption)) ?_
    rw [show S.1 (mr S) 0 = nI (rn (row S)) from (VG_rn hV).1]
    refine wa_icmp_ge 33 dX7_roomNamed_7 rfl (fun c7 => ?_) (fun c7 => absurd (by rw [hk2]; exact Int32.le_refl _) c7)
    refine wa_iconst (x := (-1)) dX7_roomNamed_33 (by decide) ?_
    rw [show (-1 : Int32) = v from he]
    exact wa_ireturn dX7_roomNamed_34 hQ
  | succ r ih =>
    intro k hk
    intro he
    have h6 := (VG_rn hV).2
    refine wa_iload_n dX7_roomNamed_2 rfl ?_
    refine wa_aload_n dX7_roomNamed_3 rfl ?_
    refine c_VI dX7_roomNamed_4 (mm_rooms hn) lk_X7_56 rfl (isO_MO _ _ _) rfl (ltS (by assumption)) ?_
    rw [show S.1 (mr S) 0 = nI (rn (row S)) from (VG_rn hV).1]
    refine wa_icmp_ge 33 dX7_roomNamed_7 rfl (fun c7 => absurd c7 (Int32.not_le.mpr (nI_lt (by omega) (by omega)))) (fun c7 => ?_)
    refine wa_iload_n dX7_roomNamed_10 rfl ?_
    refine wa_if_le 27 dX7_roomNamed_11 rfl (fun c11 => ?_) (fun c11 => ?_)
    · refine wa_iinc (y := 1) dX7_roomNamed_27 rfl (by decide) rfl ?_
      refine wa_goto 2 dX7_roomNamed_30 rfl ?_
      first
      | (have e9 : fst (fun r => 0 < x ∧ of (row S) r 11 = x) (r + 1) k = fst (fun r => 0 < x ∧ of (row S) r 11 = x) r (k + 1) := if_neg (fun z => Int32.not_lt.mpr c11 z.1)
         rw [nI_1 k]; exact ih (k + 1) (by omega) (e9.symm.trans he))
      | (have e9 : fst (fun r => 0 < x ∧ of (row S) r 11 = x) (r + 1) k = fst (fun r => 0 < x ∧ of (row S) r 11 = x) r (k + 1) := if_neg (fun z => c22 z.2)
         rw [nI_1 k]; exact ih (k + 1) (by omega) (e9.symm.trans he))
    · refine wa_aload_n dX7_roomNamed_14 rfl ?_
      refine wa_iload_n dX7_roomNamed_15 rfl ?_
      refine wa_bipush (x := 11) dX7_roomNamed_16 (by decide) ?_
      refine c_VI dX7_roomNamed_18 (mm_of2 (w := 11) hn (by omega) (by decide)) lk_X7_68 rfl (isO_MO _ _ _) rfl (ltS (by assumption)) ?_
      refine wa_iload_n dX7_roomNamed_21 rfl ?_
      refine wa_icmp_ne 27 dX7_roomNamed_22 rfl (fun c22 => ?_) (fun c22 => ?_)
      · refine wa_iinc (y := 1) dX7_roomNamed_27 rfl (by decide) rfl ?_
        refine wa_goto 2 dX7_roomNamed_30 rfl ?_
        first
        | (have e9 : fst (fun r => 0 < x ∧ of (row S) r 11 = x) (r + 1) k = fst (fun r => 0 < x ∧ of (row S) r 11 = x) r (k + 1) := if_neg (fun z => Int32.not_lt.mpr c11 z.1)
           rw [nI_1 k]; exact ih (k + 1) (by omega) (e9.symm.trans he))
        | (have e9 : fst (fun r => 0 < x ∧ of (row S) r 11 = x) (r + 1) k = fst (fun r => 0 < x ∧ of (row S) r 11 = x) r (k + 1) := if_neg (fun z => c22 z.2)
           rw [nI_1 k]; exact ih (k + 1) (by omega) (e9.symm.trans he))
      · refine wa_iload_n dX7_roomNamed_25 rfl ?_
        exact wa_ireturn dX7_roomNamed_26 (by
          have e9 : fst (fun r => 0 < x ∧ of (row S) r 11 = x) (r + 1) k = nI k := if_pos ⟨Int32.not_le.mp c11, c22⟩
          rw [← e9, he]; exact hQ)
theorem mm_roomNamed {n : Nat} {S : SS} {T : Int} (hn : 279 ≤ n) (hV : VG T (row S)) (x : Int32) : AM yX7_roomNamed cX7_roomNamed 3 (some .int) [] 1 0 0 [.ref 267, .int x] n (Hp S) (PI (rnm (row S) x) n S) := by
  intro has
  change WA RX7 cX7_roomNamed 3 [] _ _ 0 0 0 [some (.ref 267), some (.int x), none] [] n _
  refine wa_iconst (x := 0) dX7_roomNamed_0 (by decide) ?_
  refine wa_istore_n dX7_roomNamed_1 rfl ?_
  exact lp_rnm (S := S) hn hV ⟨Nat.le_refl _, Nat.le_refl _, ⟨_, rfl, rfl⟩, rfl, rfl, rfl⟩ (rn (row S)) 0 (Nat.zero_add _) rfl
/-- whether the first k bytes of m could be a name's -/
def LPn (f : Nat → Int32) (m k : Nat) : Prop := inr (nI m) 1 6 ∧ ∀ j, j < k → inr (f j) 97 122
noncomputable def fnd (f : Nat → Int32) (m : Nat) : Int32 := @ite _ (LPn f m m) (Classical.propDecidable _) (nmo f 0 m) 0
noncomputable def c2i (P : Prop) : Int32 := @ite _ P (Classical.propDecidable _) 1 0
theorem c2i_1 {P : Prop} (h : P) : c2i P = 1 := by unfold c2i; exact @if_pos _ (Classical.propDecidable _) h _ _ _
theorem c2i_0 {P : Prop} (h : ¬ P) : c2i P = 0 := by unfold c2i; exact @if_neg _ (Classical.propDecidable _) h _ _ _
theorem c2i_b {P P' : Prop} {_ : Decidable P} (h : P ↔ P') : b2i P = c2i P' := by
  by_cases hp : P
  · rw [c2i_1 (h.mp hp)]; exact if_pos hp
  · rw [c2i_0 (fun z => hp (h.mpr z))]; exact if_neg hp
theorem c2i_t {P : Prop} (h : ¬ c2i P = 0) : P := Classical.byContradiction fun z => h (c2i_0 z)
theorem c2i_f {P : Prop} (h : c2i P = 0) : ¬ P := fun z => by rw [c2i_1 z] at h; exact absurd h (by decide)
theorem c2i_cg {P P' : Prop} (h : P ↔ P') : c2i P = c2i P' := by rw [propext h]
theorem lp_find {Q : ab_Q} {n m : Nat} {S : SS} (hn : 279 ≤ n) (h6 : S.1 267 6 = nI m) (hm : m ≤ 500) (hQ : ∀ k, WA RX7 cX7_find 3 [] (ab_rm 2 0 0) Q 0 0 55 [some (.ref 267), some (.int (c2i (LPn (S.1 271) m m))), some (.int (nI (k)))] [] n (Hp S)) :
    ∀ (r k : Nat), k + r = m → WA RX7 cX7_find 3 [] (ab_rm 2 0 0) Q 0 0 20 [some (.ref 267), some (.int (c2i (LPn (S.1 271) m k))), some (.int (nI (k)))] [] n (Hp S) := by
  intro r
  induction r with
  | zero =>
    intro k hk
    have hk' : k = m := by omega
    subst hk'

    refine wa_iload_n dX7_find_20 rfl ?_
    refine wa_aload_n dX7_find_21 rfl ?_
    refine g_MO (by assumption) 6 dX7_find_22 fl_X7_152 (by decide) rfl ?_
    refine wa_icmp_ge 55 dX7_find_25 rfl (fun c25 => ?_) (fun c25 => absurd (by rw [show (S.1 267) 6 = nI k from h6]; exact Int32.le_refl _) c25)
    exact hQ k
  | succ r ih =>
    intro k hk

    refine wa_iload_n dX7_find_20 rfl ?_
    refine wa_aload_n dX7_find_21 rfl ?_
    refine g_MO (by assumption) 6 dX7_find_22 fl_X7_152 (by decide) rfl ?_
    refine wa_icmp_ge 55 dX7_find_25 rfl (fun c25 => absurd c25 (Int32.not_le.mpr (by rw [show (S.1 267) 6 = nI m from h6]; exact nI_lt (by omega) (by omega)))) (fun c25 => ?_)
    refine wa_iload_n dX7_find_28 rfl ?_
    refine wa_if_eq 55 dX7_find_29 rfl (fun c29 => ?_) (fun c29 => ?_)
    · rw [c2i_cg (P := LPn (S.1 271) m k) (P' := LPn (S.1 271) m m) ⟨fun z => absurd z (c2i_f c29), fun z => ⟨z.1, fun j hj => z.2 j (by omega)⟩⟩]
      exact hQ k
    · refine wa_aload_n dX7_find_32 rfl ?_
      refine g_MO (by assumption) 5 dX7_find_33 fl_X7_30 (by decide) rfl ?_
      refine wa_iload_n dX7_find_36 rfl ?_
      refine s_bald (j := k) isA_input dX7_find_37 (ltS (by assumption)) (ix_nI (by omega)) (by omega) ?_
      refine wa_i2l dX7_find_38 ?_
      refine wa_ldc2 dX7_find_39 wv_X7_184 ?_
      refine wa_ldc2 dX7_find_42 wv_X7_186 ?_
      refine c_SI dX7_find_45 (mm_inI (a := S.1 271 k) (b := 97) (c := 122) (by decide) (by decide)) lk_X7_60 rfl ?_
      rw [c2i_b (P' := LPn (S.1 271) m (k + 1)) ⟨fun z => ⟨(c2i_t c29).1, fun j hj => by
        rcases Nat.lt_or_ge j k with q | q
        · exact (c2i_t c29).2 j q
        · rw [show j = k by omega]; exact z⟩, fun z => z.2 k (Nat.lt_succ_self k)⟩]
      refine wa_istore_n dX7_find_48 rfl ?_
      refine wa_iinc (y := 1) dX7_find_49 rfl (by decide) rfl ?_
      refine wa_goto 20 dX7_find_52 rfl ?_
      rw [nI_1 k]
      exact ih (k + 1) (by omega)
theorem find_tail {Q : ab_Q} {n m : Nat} {S : SS} {T : Int} (x2 : Int32) (hn : 279 ≤ n) (h6 : S.1 267 6 = nI m) (hm : m ≤ 500) (hV2 : VG T (row (ss S 267 6 0))) (hQ : Q (.inl (some (.int (rnm (row S) (fnd (S.1 271) m))))) 0 0 n (Hp (ss S 267 6 0))) : WA RX7 cX7_find 3 [] (ab_rm 2 0 0) Q 0 0 55 [some (.ref 267), some (.int (c2i (LPn (S.1 271) m m))), some (.int x2)] [] n (Hp S) := by
  refine wa_iload_n dX7_find_55 rfl ?_
  refine wa_if_eq 74 dX7_find_56 rfl (fun c56 => ?_) (fun c56 => ?_)
  · refine wa_iconst (x := 0) dX7_find_74 (by decide) ?_
    refine wa_istore_n dX7_find_75 rfl ?_
    refine wa_aload_n dX7_find_76 rfl ?_
    refine wa_iconst (x := 0) dX7_find_77 (by decide) ?_
    refine p_MO (by assumption) 6 dX7_find_78 fl_X7_152 (by decide) rfl rfl rfl rfl (fun _ _ _ => rfl) (Nat.le_of_ble_eq_true rfl) ?_
    refine wa_aload_n dX7_find_81 rfl ?_
    refine wa_iload_n dX7_find_82 rfl ?_
    refine c_VI dX7_find_83 (mm_roomNamed hn hV2 _) lk_X7_281 rfl (isO_MO _ _ _) rfl (ltS (by assumption)) ?_
    exact wa_ireturn dX7_find_86 (by
      have e8 : row (ss S 267 6 0) = row S := by
        show (if mr S = 267 then upd (S.1 267) 6 0 else S.1 (mr S)) = S.1 (mr S)
        rcases mr_cases S with e | e <;> rw [e] <;> rfl
      rw [e8]
      first
      | (rw [show nmo (S.1 271) 0 m = fnd (S.1 271) m from (@if_pos _ (Classical.propDecidable _) (c2i_t c56) _ _ _).symm]; exact hQ)
      | (have e7 : fnd (S.1 271) m = 0 := @if_neg _ (Classical.propDecidable _) (c2i_f c56) _ _ _
         rw [e7] at hQ; exact hQ))
  · refine wa_aload_n dX7_find_59 rfl ?_
    refine g_MO (by assumption) 5 dX7_find_60 fl_X7_30 (by decide) rfl ?_
    refine wa_iconst (x := 0) dX7_find_63 (by decide) ?_
    refine wa_aload_n dX7_find_64 rfl ?_
    refine g_MO (by assumption) 6 dX7_find_65 fl_X7_152 (by decide) rfl ?_
    rw [h6, show nI m = nI (0 + m) from by rw [Nat.zero_add]]
    rw [show (0 : Int32) = nI 0 from rfl]
    refine c_SI dX7_find_68 (show AM yX7_nameOf cX7_nameOf 5 (some .int) [] 0 0 0 _ n (Hp S) _ from mm_nameOf (p := 0) (l := m) hn (by omega)) lk_X7_274 rfl ?_
    refine wa_goto 75 dX7_find_71 rfl ?_
    refine wa_istore_n dX7_find_75 rfl ?_
    refine wa_aload_n dX7_find_76 rfl ?_
    refine wa_iconst (x := 0) dX7_find_77 (by decide) ?_
    refine p_MO (by assumption) 6 dX7_find_78 fl_X7_152 (by decide) rfl rfl rfl rfl (fun _ _ _ => rfl) (Nat.le_of_ble_eq_true rfl) ?_
    refine wa_aload_n dX7_find_81 rfl ?_
    refine wa_iload_n dX7_find_82 rfl ?_
    refine c_VI dX7_find_83 (mm_roomNamed hn hV2 _) lk_X7_281 rfl (isO_MO _ _ _) rfl (ltS (by assumption)) ?_
    exact wa_ireturn dX7_find_86 (by
      have e8 : row (ss S 267 6 0) = row S := by
        show (if mr S = 267 then upd (S.1 267) 6 0 else S.1 (mr S)) = S.1 (mr S)
        rcases mr_cases S with e | e <;> rw [e] <;> rfl
      rw [e8]
      first
      | (rw [show nmo (S.1 271) 0 m = fnd (S.1 271) m from (@if_pos _ (Classical.propDecidable _) (c2i_t c56) _ _ _).symm]; exact hQ)
      | (have e7 : fnd (S.1 271) m = 0 := @if_neg _ (Classical.propDecidable _) (c2i_f c56) _ _ _
         rw [e7] at hQ; exact hQ))
theorem mm_find {n m : Nat} {S : SS} {T : Int} (hn : 279 ≤ n) (hm : mr S = 268) (hV : VG T (S.1 268)) (h6 : S.1 267 6 = nI m) (hm5 : m ≤ 500) : AM yX7_find cX7_find 3 (some .int) [] 2 0 0 [.ref 267] n (Hp S) (PI (rnm (S.1 268) (fnd (S.1 271) m)) n (ss (th S 0) 267 6 0)) := by
  intro has
  change WA RX7 cX7_find 3 [] _ _ 0 0 0 [some (.ref 267), none, none] [] n _
  have h60 : (th S 0).1 267 6 = nI m := (th_k S 0 (by decide)).trans h6
  refine wa_aload_n dX7_find_0 rfl ?_
  refine wa_iconst (x := 0) dX7_find_1 (by decide) ?_
  refine p_MO (by assumption) 0 dX7_find_2 fl_X7_3 (by decide) rfl rfl rfl rfl (fun _ _ _ => rfl) (Nat.le_of_ble_eq_true rfl) ?_
  show WA _ _ _ _ _ _ _ _ _ _ _ _ (Hp (th S 0))
  refine wa_aload_n dX7_find_5 rfl ?_
  refine g_MO (by assumption) 6 dX7_find_6 fl_X7_152 (by decide) rfl ?_
  rw [h60]
  refine wa_i2l dX7_find_9 ?_
  refine wa_lconst (x := 1) dX7_find_10 (by decide) ?_
  refine wa_ldc2 dX7_find_11 wv_X7_343 ?_
  refine c_SI dX7_find_14 (mm_inI (a := nI m) (b := 1) (c := 6) (by decide) (by decide)) lk_X7_60 rfl ?_
  rw [c2i_b (P' := LPn ((th S 0).1 271) m 0) ⟨fun z => ⟨z, fun j hj => absurd hj (Nat.not_lt_zero _)⟩, fun z => z.1⟩]
  refine wa_istore_n dX7_find_17 rfl ?_
  refine wa_iconst (x := 0) dX7_find_18 (by decide) ?_
  refine wa_istore_n dX7_find_19 rfl ?_
  refine lp_find (S := th S 0) hn h60 hm5 (fun k => find_tail (S := th S 0) (T := T) _ hn h60 hm5 ?_ ?_) m 0 (Nat.zero_add _)
  · have : row (ss (th S 0) 267 6 0) = S.1 268 := by
      show (if mr (th S 0) = 267 then _ else (th S 0).1 (mr (th S 0))) = _
      rw [show mr (th S 0) = 268 from hm]; rfl
    rw [this]; exact hV
  · refine ⟨Nat.le_refl _, Nat.le_refl _, ⟨_, rfl, rfl⟩, ?_, rfl, rfl⟩
    rw [row_th, row_net hm]; rfl
