/-! ValveRoomModel: the rooms compared; the rest of its answers. Written by program (wip/whole/gen/m585.py) but for the heads. -/
/-- the room that is chosen among the first k; lt: this one is rather than that one -/
def sel (lt : Nat → Nat → Prop) [DecidableRel lt] : Nat → Option Nat
  | 0 => none
  | k + 1 => match sel lt k with
    | none => some k
    | some b => if lt k b then some k else some b
def ov (o : Option Nat) : Int32 := match o with
  | none => -1
  | some b => nI b
theorem sel_lt (lt : Nat → Nat → Prop) [DecidableRel lt] : ∀ (k b : Nat), sel lt k = some b → b < k
  | 0, b, h => by cases h
  | k + 1, b, h => by
    unfold sel at h
    split at h
    · cases h; omega
    · next b' e =>
      have := sel_lt lt k b' e
      split at h <;> cases h <;> omega
theorem sel_n {lt : Nat → Nat → Prop} [DecidableRel lt] {k : Nat} (h : sel lt k = none) : sel lt (k + 1) = some k := by
  show (match sel lt k with | none => some k | some b => if lt k b then some k else some b) = _
  rw [h]
theorem sel_s {lt : Nat → Nat → Prop} [DecidableRel lt] {k b : Nat} (h : sel lt k = some b) : sel lt (k + 1) = if lt k b then some k else some b := by
  show (match sel lt k with | none => some k | some b => if lt k b then some k else some b) = _
  rw [h]
theorem nI_m1 {b : Nat} (h : b < 2 ^ 31) : ¬ nI b = -1 := fun z => by
  have := congrArg Int32.toInt z
  rw [nI_toInt h] at this
  have e : (-1 : Int32).toInt = -1 := by decide
  omega
theorem lp_coldest {Q : ab_Q} {n c : Nat} {S : SS} {T : Int} (hn : 279 ≤ n) (hc : c ≤ 6) (hV : VG T (row S)) (h0 : row S 0 = nI c) (hQ : Q (.inl (some (.int (ov (sel (fun a b => of (row S) a 0 < of (row S) b 0) c))))) 0 0 n (Hp S)) :
    ∀ (r k : Nat) (o : Option Nat), k + r = c → sel (fun a b => of (row S) a 0 < of (row S) b 0) k = o → WA RX7 cX7_coldest 3 [] (ab_rm 2 0 0) Q 0 0 9 [some (.ref 267), some (.int (ov o)), some (.int (nI k))] [] n (Hp S) := by
  intro r
  induction r with
  | zero =>
    intro k o hk ho
    have hk' : c = k := by omega
    subst hk'
    subst ho
    refine wa_iload_n dX7_coldest_9 rfl ?_
    refine wa_aload_n dX7_coldest_10 rfl ?_
    refine c_VI dX7_coldest_11 (mm_rooms (by assumption)) lk_X7_56 rfl (isO_MO _ _ _) rfl (ltS (by assumption)) ?_
    rw [show S.1 (mr S) 0 = nI c from h0]
    refine wa_icmp_ge 49 dX7_coldest_14 rfl (fun c14 => ?_) (fun c14 => absurd (nI_le (Nat.le_refl _) (by omega)) c14)
    refine wa_iload_n dX7_coldest_49 rfl ?_
    exact wa_ireturn dX7_coldest_50 hQ
  | succ r ih =>
    intro k o hk ho
    have hi : k < 6 := by omega
    cases o with
    | none =>
      show WA RX7 cX7_coldest 3 [] (ab_rm 2 0 0) Q 0 0 9 [some (.ref 267), some (.int (-1)), some (.int (nI k))] [] n (Hp S)
      refine wa_iload_n dX7_coldest_9 rfl ?_
      refine wa_aload_n dX7_coldest_10 rfl ?_
      refine c_VI dX7_coldest_11 (mm_rooms (by assumption)) lk_X7_56 rfl (isO_MO _ _ _) rfl (ltS (by assumption)) ?_
      rw [show S.1 (mr S) 0 = nI c from h0]
      refine wa_icmp_ge 49 dX7_coldest_14 rfl (fun c14 => absurd c14 (nI_ge (a := k) (b := c) (by omega) (by omega))) (fun c14 => ?_)
      refine wa_iload_n dX7_coldest_17 rfl ?_
      refine wa_iconst (x := (-1)) dX7_coldest_18 (by decide) ?_
      refine wa_icmp_eq 37 dX7_coldest_19 rfl (fun c19 => ?_) (fun c19 => absurd rfl c19)
      refine wa_iload_n dX7_coldest_37 rfl ?_
      refine wa_goto 42 dX7_coldest_38 rfl ?_
      refine wa_istore_n dX7_coldest_42 rfl ?_
      refine wa_iinc (y := 1) dX7_coldest_43 rfl (by decide) rfl ?_
      refine wa_goto 9 dX7_coldest_46 rfl ?_
      rw [nI_1 k]
      exact ih (k + 1) (some k) (by omega) (sel_n ho)
    | some b =>
      have hb : b < 6 := by have := sel_lt _ _ _ ho; omega
      show WA RX7 cX7_coldest 3 [] (ab_rm 2 0 0) Q 0 0 9 [some (.ref 267), some (.int (nI b)), some (.int (nI k))] [] n (Hp S)
      refine wa_iload_n dX7_coldest_9 rfl ?_
      refine wa_aload_n dX7_coldest_10 rfl ?_
      refine c_VI dX7_coldest_11 (mm_rooms (by assumption)) lk_X7_56 rfl (isO_MO _ _ _) rfl (ltS (by assumption)) ?_
      rw [show S.1 (mr S) 0 = nI c from h0]
      refine wa_icmp_ge 49 dX7_coldest_14 rfl (fun c14 => absurd c14 (nI_ge (a := k) (b := c) (by omega) (by omega))) (fun c14 => ?_)
      refine wa_iload_n dX7_coldest_17 rfl ?_
      refine wa_iconst (x := (-1)) dX7_coldest_18 (by decide) ?_
      refine wa_icmp_eq 37 dX7_coldest_19 rfl (fun c19 => absurd c19 (nI_m1 (by omega))) (fun c19 => ?_)
      refine wa_aload_n dX7_coldest_22 rfl ?_
      refine wa_iload_n dX7_coldest_23 rfl ?_
      refine wa_iconst (x := 0) dX7_coldest_24 (by decide) ?_
      refine c_VI dX7_coldest_25 (mm_of2 (w := 0) (i := k) (by assumption) hi (by decide)) lk_X7_68 rfl (isO_MO _ _ _) rfl (ltS (by assumption)) ?_
      refine wa_aload_n dX7_coldest_28 rfl ?_
      refine wa_iload_n dX7_coldest_29 rfl ?_
      refine wa_iconst (x := 0) dX7_coldest_30 (by decide) ?_
      refine c_VI dX7_coldest_31 (mm_of2 (w := 0) (i := b) (by assumption) hb (by decide)) lk_X7_68 rfl (isO_MO _ _ _) rfl (ltS (by assumption)) ?_
      refine wa_icmp_ge 41 dX7_coldest_34 rfl (fun c34 => ?_) (fun c34 => ?_)
      · refine wa_iload_n dX7_coldest_41 rfl ?_
        refine wa_istore_n dX7_coldest_42 rfl ?_
        refine wa_iinc (y := 1) dX7_coldest_43 rfl (by decide) rfl ?_
        refine wa_goto 9 dX7_coldest_46 rfl ?_
        first
        | (rw [nI_1 k]
           exact ih (k + 1) (some k) (by omega) ((sel_s ho).trans (if_pos (Int32.not_le.mp c34))))
        | (rw [nI_1 k]
           exact ih (k + 1) (some b) (by omega) ((sel_s ho).trans (if_neg (Int32.not_lt.mpr c34))))
      · refine wa_iload_n dX7_coldest_37 rfl ?_
        refine wa_goto 42 dX7_coldest_38 rfl ?_
        refine wa_istore_n dX7_coldest_42 rfl ?_
        refine wa_iinc (y := 1) dX7_coldest_43 rfl (by decide) rfl ?_
        refine wa_goto 9 dX7_coldest_46 rfl ?_
        first
        | (rw [nI_1 k]
           exact ih (k + 1) (some k) (by omega) ((sel_s ho).trans (if_pos (Int32.not_le.mp c34))))
        | (rw [nI_1 k]
           exact ih (k + 1) (some b) (by omega) ((sel_s ho).trans (if_neg (Int32.not_lt.mpr c34))))
theorem mm_coldest {n : Nat} {S : SS} {T : Int} (hn : 279 ≤ n) (hm : mr S = 268) (hV : VG T (S.1 268)) : AM yX7_coldest cX7_coldest 3 (some .int) [] 2 0 0 [.ref 267] n (Hp S) (PI (ov (sel (fun a b => of (S.1 268) a 0 < of (S.1 268) b 0) (rn (S.1 268)))) n (th S 0)) := by
  intro has
  change WA RX7 cX7_coldest 3 [] _ _ 0 0 0 [some (.ref 267), none, none] [] n _
  have er : row (th S 0) = S.1 268 := (row_th S 0).trans (row_net hm)
  have hV1 : VG T (row (th S 0)) := by rw [er]; exact hV
  have h0 : row (th S 0) 0 = nI (rn (S.1 268)) := by rw [er]; exact (VG_rn hV).1
  refine wa_aload_n dX7_coldest_0 rfl ?_
  refine wa_iconst (x := 0) dX7_coldest_1 (by decide) ?_
  refine p_MO (by assumption) 0 dX7_coldest_2 fl_X7_3 (by decide) rfl rfl rfl rfl (fun _ _ _ => rfl) (Nat.le_of_ble_eq_true rfl) ?_
  refine wa_iconst (x := (-1)) dX7_coldest_5 (by decide) ?_
  refine wa_istore_n dX7_coldest_6 rfl ?_
  refine wa_iconst (x := 0) dX7_coldest_7 (by decide) ?_
  refine wa_istore_n dX7_coldest_8 rfl ?_
  exact lp_coldest (S := th S 0) hn (VG_rn hV).2 hV1 h0 ⟨Nat.le_refl _, Nat.le_refl _, ⟨_, rfl, rfl⟩, ri (by simp only [er]), rfl, rfl⟩ (rn (S.1 268)) 0 none (Nat.zero_add _) rfl
theorem lp_weakest {Q : ab_Q} {n c : Nat} {S : SS} {T : Int} (hn : 279 ≤ n) (hc : c ≤ 6) (hV : VG T (row S)) (h0 : row S 0 = nI c) (hQ : Q (.inl (some (.int (ov (sel (fun a b => of (row S) a 2 < of (row S) b 2) c))))) 0 0 n (Hp S)) :
    ∀ (r k : Nat) (o : Option Nat), k + r = c → sel (fun a b => of (row S) a 2 < of (row S) b 2) k = o → WA RX7 cX7_weakest 3 [] (ab_rm 2 0 0) Q 0 0 9 [some (.ref 267), some (.int (ov o)), some (.int (nI k))] [] n (Hp S) := by
  intro r
  induction r with
  | zero =>
    intro k o hk ho
    have hk' : c = k := by omega
    subst hk'
    subst ho
    refine wa_iload_n dX7_weakest_9 rfl ?_
    refine wa_aload_n dX7_weakest_10 rfl ?_
    refine c_VI dX7_weakest_11 (mm_rooms (by assumption)) lk_X7_56 rfl (isO_MO _ _ _) rfl (ltS (by assumption)) ?_
    rw [show S.1 (mr S) 0 = nI c from h0]
    refine wa_icmp_ge 49 dX7_weakest_14 rfl (fun c14 => ?_) (fun c14 => absurd (nI_le (Nat.le_refl _) (by omega)) c14)
    refine wa_iload_n dX7_weakest_49 rfl ?_
    exact wa_ireturn dX7_weakest_50 hQ
  | succ r ih =>
    intro k o hk ho
    have hi : k < 6 := by omega
    cases o with
    | none =>
      show WA RX7 cX7_weakest 3 [] (ab_rm 2 0 0) Q 0 0 9 [some (.ref 267), some (.int (-1)), some (.int (nI k))] [] n (Hp S)
      refine wa_iload_n dX7_weakest_9 rfl ?_
      refine wa_aload_n dX7_weakest_10 rfl ?_
      refine c_VI dX7_weakest_11 (mm_rooms (by assumption)) lk_X7_56 rfl (isO_MO _ _ _) rfl (ltS (by assumption)) ?_
      rw [show S.1 (mr S) 0 = nI c from h0]
      refine wa_icmp_ge 49 dX7_weakest_14 rfl (fun c14 => absurd c14 (nI_ge (a := k) (b := c) (by omega) (by omega))) (fun c14 => ?_)
      refine wa_iload_n dX7_weakest_17 rfl ?_
      refine wa_iconst (x := (-1)) dX7_weakest_18 (by decide) ?_
      refine wa_icmp_eq 37 dX7_weakest_19 rfl (fun c19 => ?_) (fun c19 => absurd rfl c19)
      refine wa_iload_n dX7_weakest_37 rfl ?_
      refine wa_goto 42 dX7_weakest_38 rfl ?_
      refine wa_istore_n dX7_weakest_42 rfl ?_
      refine wa_iinc (y := 1) dX7_weakest_43 rfl (by decide) rfl ?_
      refine wa_goto 9 dX7_weakest_46 rfl ?_
      rw [nI_1 k]
      exact ih (k + 1) (some k) (by omega) (sel_n ho)
    | some b =>
      have hb : b < 6 := by have := sel_lt _ _ _ ho; omega
      show WA RX7 cX7_weakest 3 [] (ab_rm 2 0 0) Q 0 0 9 [some (.ref 267), some (.int (nI b)), some (.int (nI k))] [] n (Hp S)
      refine wa_iload_n dX7_weakest_9 rfl ?_
      refine wa_aload_n dX7_weakest_10 rfl ?_
      refine c_VI dX7_weakest_11 (mm_rooms (by assumption)) lk_X7_56 rfl (isO_MO _ _ _) rfl (ltS (by assumption)) ?_
      rw [show S.1 (mr S) 0 = nI c from h0]
      refine wa_icmp_ge 49 dX7_weakest_14 rfl (fun c14 => absurd c14 (nI_ge (a := k) (b := c) (by omega) (by omega))) (fun c14 => ?_)
      refine wa_iload_n dX7_weakest_17 rfl ?_
      refine wa_iconst (x := (-1)) dX7_weakest_18 (by decide) ?_
      refine wa_icmp_eq 37 dX7_weakest_19 rfl (fun c19 => absurd c19 (nI_m1 (by omega))) (fun c19 => ?_)
      refine wa_aload_n dX7_weakest_22 rfl ?_
      refine wa_iload_n dX7_weakest_23 rfl ?_
      refine wa_iconst (x := 2) dX7_weakest_24 (by decide) ?_
      refine c_VI dX7_weakest_25 (mm_of2 (w := 2) (i := k) (by assumption) hi (by decide)) lk_X7_68 rfl (isO_MO _ _ _) rfl (ltS (by assumption)) ?_
      refine wa_aload_n dX7_weakest_28 rfl ?_
      refine wa_iload_n dX7_weakest_29 rfl ?_
      refine wa_iconst (x := 2) dX7_weakest_30 (by decide) ?_
      refine c_VI dX7_weakest_31 (mm_of2 (w := 2) (i := b) (by assumption) hb (by decide)) lk_X7_68 rfl (isO_MO _ _ _) rfl (ltS (by assumption)) ?_
      refine wa_icmp_ge 41 dX7_weakest_34 rfl (fun c34 => ?_) (fun c34 => ?_)
      · refine wa_iload_n dX7_weakest_41 rfl ?_
        refine wa_istore_n dX7_weakest_42 rfl ?_
        refine wa_iinc (y := 1) dX7_weakest_43 rfl (by decide) rfl ?_
        refine wa_goto 9 dX7_weakest_46 rfl ?_
        first
        | (rw [nI_1 k]
           exact ih (k + 1) (some k) (by omega) ((sel_s ho).trans (if_pos (Int32.not_le.mp c34))))
        | (rw [nI_1 k]
           exact ih (k + 1) (some b) (by omega) ((sel_s ho).trans (if_neg (Int32.not_lt.mpr c34))))
      · refine wa_iload_n dX7_weakest_37 rfl ?_
        refine wa_goto 42 dX7_weakest_38 rfl ?_
        refine wa_istore_n dX7_weakest_42 rfl ?_
        refine wa_iinc (y := 1) dX7_weakest_43 rfl (by decide) rfl ?_
        refine wa_goto 9 dX7_weakest_46 rfl ?_
        first
        | (rw [nI_1 k]
           exact ih (k + 1) (some k) (by omega) ((sel_s ho).trans (if_pos (Int32.not_le.mp c34))))
        | (rw [nI_1 k]
           exact ih (k + 1) (some b) (by omega) ((sel_s ho).trans (if_neg (Int32.not_lt.mpr c34))))
theorem mm_weakest {n : Nat} {S : SS} {T : Int} (hn : 279 ≤ n) (hm : mr S = 268) (hV : VG T (S.1 268)) : AM yX7_weakest cX7_weakest 3 (some .int) [] 2 0 0 [.ref 267] n (Hp S) (PI (ov (sel (fun a b => of (S.1 268) a 2 < of (S.1 268) b 2) (rn (S.1 268)))) n (th S 0)) := by
  intro has
  change WA RX7 cX7_weakest 3 [] _ _ 0 0 0 [some (.ref 267), none, none] [] n _
  have er : row (th S 0) = S.1 268 := (row_th S 0).trans (row_net hm)
  have hV1 : VG T (row (th S 0)) := by rw [er]; exact hV
  have h0 : row (th S 0) 0 = nI (rn (S.1 268)) := by rw [er]; exact (VG_rn hV).1
  refine wa_aload_n dX7_weakest_0 rfl ?_
  refine wa_iconst (x := 0) dX7_weakest_1 (by decide) ?_
  refine p_MO (by assumption) 0 dX7_weakest_2 fl_X7_3 (by decide) rfl rfl rfl rfl (fun _ _ _ => rfl) (Nat.le_of_ble_eq_true rfl) ?_
  refine wa_iconst (x := (-1)) dX7_weakest_5 (by decide) ?_
  refine wa_istore_n dX7_weakest_6 rfl ?_
  refine wa_iconst (x := 0) dX7_weakest_7 (by decide) ?_
  refine wa_istore_n dX7_weakest_8 rfl ?_
  exact lp_weakest (S := th S 0) hn (VG_rn hV).2 hV1 h0 ⟨Nat.le_refl _, Nat.le_refl _, ⟨_, rfl, rfl⟩, ri (by simp only [er]), rfl, rfl⟩ (rn (S.1 268)) 0 none (Nat.zero_add _) rfl
def apt (g : Nat → Int32) (i : Nat) : Int32 := i_abs (of g i 0 - tgt g i)
theorem mm_apart {n i : Nat} {S : SS} {T : Int} (hn : 279 ≤ n) (hi : i < 6) (hV : VG T (row S)) : AM yX7_apart cX7_apart 2 (some .int) [] 4 0 0 [.ref 267, .int (nI i)] n (Hp S) (PI (apt (row S) i) n S) := by
  intro has
  change WA RX7 cX7_apart 2 [] _ _ 0 0 0 [some (.ref 267), some (.int (nI i))] [] n _
  refine wa_aload_n dX7_apart_0 rfl ?_
  refine wa_iload_n dX7_apart_1 rfl ?_
  refine wa_iconst (x := 0) dX7_apart_2 (by decide) ?_
  refine c_VI dX7_apart_3 (mm_of2 (w := 0) (by assumption) (by assumption) (by decide)) lk_X7_68 rfl (isO_MO _ _ _) rfl (ltS (by assumption)) ?_
  refine wa_aload_n dX7_apart_6 rfl ?_
  refine wa_iload_n dX7_apart_7 rfl ?_
  refine c_VI dX7_apart_8 (mt_targetOf (by assumption) (by assumption) (by assumption)) lk_X7_78 rfl (isO_MO _ _ _) rfl (ltS (by assumption)) ?_
  refine wa_isub dX7_apart_11 ?_
  refine c_SI dX7_apart_12 (am_abs _) lk_X7_82 rfl ?_
  exact wa_ireturn dX7_apart_15 ⟨Nat.le_refl _, Nat.le_refl _, ⟨_, rfl, rfl⟩, rfl, rfl, rfl⟩
theorem lp_farthest {Q : ab_Q} {n c : Nat} {S : SS} {T : Int} (hn : 279 ≤ n) (hc : c ≤ 6) (hV : VG T (row S)) (h0 : row S 0 = nI c) (hQ : Q (.inl (some (.int (ov (sel (fun a b => apt (row S) b < apt (row S) a) c))))) 0 0 n (Hp S)) :
    ∀ (r k : Nat) (o : Option Nat), k + r = c → sel (fun a b => apt (row S) b < apt (row S) a) k = o → WA RX7 cX7_farthest 3 [] (ab_rm 5 0 0) Q 0 0 9 [some (.ref 267), some (.int (ov o)), some (.int (nI k))] [] n (Hp S) := by
  intro r
  induction r with
  | zero =>
    intro k o hk ho
    have hk' : c = k := by omega
    subst hk'
    subst ho
    refine wa_iload_n dX7_farthest_9 rfl ?_
    refine wa_aload_n dX7_farthest_10 rfl ?_
    refine c_VI dX7_farthest_11 (mm_rooms (by assumption)) lk_X7_56 rfl (isO_MO _ _ _) rfl (ltS (by assumption)) ?_
    rw [show S.1 (mr S) 0 = nI c from h0]
    refine wa_icmp_ge 47 dX7_farthest_14 rfl (fun c14 => ?_) (fun c14 => absurd (nI_le (Nat.le_refl _) (by omega)) c14)
    refine wa_iload_n dX7_farthest_47 rfl ?_
    exact wa_ireturn dX7_farthest_48 hQ
  | succ r ih =>
    intro k o hk ho
    have hi : k < 6 := by omega
    cases o with
    | none =>
      show WA RX7 cX7_farthest 3 [] (ab_rm 5 0 0) Q 0 0 9 [some (.ref 267), some (.int (-1)), some (.int (nI k))] [] n (Hp S)
      refine wa_iload_n dX7_farthest_9 rfl ?_
      refine wa_aload_n dX7_farthest_10 rfl ?_
      refine c_VI dX7_farthest_11 (mm_rooms (by assumption)) lk_X7_56 rfl (isO_MO _ _ _) rfl (ltS (by assumption)) ?_
      rw [show S.1 (mr S) 0 = nI c from h0]
      refine wa_icmp_ge 47 dX7_farthest_14 rfl (fun c14 => absurd c14 (nI_ge (a := k) (b := c) (by omega) (by omega))) (fun c14 => ?_)
      refine wa_iload_n dX7_farthest_17 rfl ?_
      refine wa_iconst (x := (-1)) dX7_farthest_18 (by decide) ?_
      refine wa_icmp_eq 35 dX7_farthest_19 rfl (fun c19 => ?_) (fun c19 => absurd rfl c19)
      refine wa_iload_n dX7_farthest_35 rfl ?_
      refine wa_goto 40 dX7_farthest_36 rfl ?_
      refine wa_istore_n dX7_farthest_40 rfl ?_
      refine wa_iinc (y := 1) dX7_farthest_41 rfl (by decide) rfl ?_
      refine wa_goto 9 dX7_farthest_44 rfl ?_
      rw [nI_1 k]
      exact ih (k + 1) (some k) (by omega) (sel_n ho)
    | some b =>
      have hb : b < 6 := by have := sel_lt _ _ _ ho; omega
      show WA RX7 cX7_farthest 3 [] (ab_rm 5 0 0) Q 0 0 9 [some (.ref 267), some (.int (nI b)), some (.int (nI k))] [] n (Hp S)
      refine wa_iload_n dX7_farthest_9 rfl ?_
      refine wa_aload_n dX7_farthest_10 rfl ?_
      refine c_VI dX7_farthest_11 (mm_rooms (by assumption)) lk_X7_56 rfl (isO_MO _ _ _) rfl (ltS (by assumption)) ?_
      rw [show S.1 (mr S) 0 = nI c from h0]
      refine wa_icmp_ge 47 dX7_farthest_14 rfl (fun c14 => absurd c14 (nI_ge (a := k) (b := c) (by omega) (by omega))) (fun c14 => ?_)
      refine wa_iload_n dX7_farthest_17 rfl ?_
      refine wa_iconst (x := (-1)) dX7_farthest_18 (by decide) ?_
      refine wa_icmp_eq 35 dX7_farthest_19 rfl (fun c19 => absurd c19 (nI_m1 (by omega))) (fun c19 => ?_)
      refine wa_aload_n dX7_farthest_22 rfl ?_
      refine wa_iload_n dX7_farthest_23 rfl ?_
      refine c_VI dX7_farthest_24 (mm_apart (i := k) (by assumption) hi hV) lk_X7_398 rfl (isO_MO _ _ _) rfl (ltS (by assumption)) ?_
      refine wa_aload_n dX7_farthest_27 rfl ?_
      refine wa_iload_n dX7_farthest_28 rfl ?_
      refine c_VI dX7_farthest_29 (mm_apart (i := b) (by assumption) hb hV) lk_X7_398 rfl (isO_MO _ _ _) rfl (ltS (by assumption)) ?_
      refine wa_icmp_le 39 dX7_farthest_32 rfl (fun c32 => ?_) (fun c32 => ?_)
      · refine wa_iload_n dX7_farthest_39 rfl ?_
        refine wa_istore_n dX7_farthest_40 rfl ?_
        refine wa_iinc (y := 1) dX7_farthest_41 rfl (by decide) rfl ?_
        refine wa_goto 9 dX7_farthest_44 rfl ?_
        first
        | (rw [nI_1 k]
           exact ih (k + 1) (some k) (by omega) ((sel_s ho).trans (if_pos (Int32.not_le.mp c32))))
        | (rw [nI_1 k]
           exact ih (k + 1) (some b) (by omega) ((sel_s ho).trans (if_neg (Int32.not_lt.mpr c32))))
      · refine wa_iload_n dX7_farthest_35 rfl ?_
        refine wa_goto 40 dX7_farthest_36 rfl ?_
        refine wa_istore_n dX7_farthest_40 rfl ?_
        refine wa_iinc (y := 1) dX7_farthest_41 rfl (by decide) rfl ?_
        refine wa_goto 9 dX7_farthest_44 rfl ?_
        first
        | (rw [nI_1 k]
           exact ih (k + 1) (some k) (by omega) ((sel_s ho).trans (if_pos (Int32.not_le.mp c32))))
        | (rw [nI_1 k]
           exact ih (k + 1) (some b) (by omega) ((sel_s ho).trans (if_neg (Int32.not_lt.mpr c32))))
theorem mm_farthest {n : Nat} {S : SS} {T : Int} (hn : 279 ≤ n) (hm : mr S = 268) (hV : VG T (S.1 268)) : AM yX7_farthest cX7_farthest 3 (some .int) [] 5 0 0 [.ref 267] n (Hp S) (PI (ov (sel (fun a b => apt (S.1 268) b < apt (S.1 268) a) (rn (S.1 268)))) n (th S 0)) := by
  intro has
  change WA RX7 cX7_farthest 3 [] _ _ 0 0 0 [some (.ref 267), none, none] [] n _
  have er : row (th S 0) = S.1 268 := (row_th S 0).trans (row_net hm)
  have hV1 : VG T (row (th S 0)) := by rw [er]; exact hV
  have h0 : row (th S 0) 0 = nI (rn (S.1 268)) := by rw [er]; exact (VG_rn hV).1
  refine wa_aload_n dX7_farthest_0 rfl ?_
  refine wa_iconst (x := 0) dX7_farthest_1 (by decide) ?_
  refine p_MO (by assumption) 0 dX7_farthest_2 fl_X7_3 (by decide) rfl rfl rfl rfl (fun _ _ _ => rfl) (Nat.le_of_ble_eq_true rfl) ?_
  refine wa_iconst (x := (-1)) dX7_farthest_5 (by decide) ?_
  refine wa_istore_n dX7_farthest_6 rfl ?_
  refine wa_iconst (x := 0) dX7_farthest_7 (by decide) ?_
  refine wa_istore_n dX7_farthest_8 rfl ?_
  exact lp_farthest (S := th S 0) hn (VG_rn hV).2 hV1 h0 ⟨Nat.le_refl _, Nat.le_refl _, ⟨_, rfl, rfl⟩, ri (by simp only [er]), rfl, rfl⟩ (rn (S.1 268)) 0 none (Nat.zero_add _) rfl
theorem mm_errorCode {n : Nat} {S : SS} (hn : 279 ≤ n) : AM yX7_errorCode cX7_errorCode 1 (some .int) [] 0 0 0 [.ref 267] n (Hp S) (PI (S.1 267 12) n (th S 0)) := by
  intro has
  change WA RX7 cX7_errorCode 1 [] _ _ 0 0 0 [some (.ref 267)] [] n _
  refine wa_aload_n dX7_errorCode_0 rfl ?_
  refine wa_iconst (x := 0) dX7_errorCode_1 (by decide) ?_
  refine p_MO (by assumption) 0 dX7_errorCode_2 fl_X7_3 (by decide) rfl rfl rfl rfl (fun _ _ _ => rfl) (Nat.le_of_ble_eq_true rfl) ?_
  refine wa_aload_n dX7_errorCode_5 rfl ?_
  refine g_MO (by assumption) 12 dX7_errorCode_6 fl_X7_162 (by decide) rfl ?_
  exact wa_ireturn dX7_errorCode_9 ⟨Nat.le_refl _, Nat.le_refl _, ⟨_, rfl, rfl⟩, (ri (th_k S 0 (by decide))), rfl, rfl⟩
theorem mm_errorPosition {n : Nat} {S : SS} (hn : 279 ≤ n) : AM yX7_errorPosition cX7_errorPosition 1 (some .int) [] 0 0 0 [.ref 267] n (Hp S) (PI (S.1 267 13) n (th S 0)) := by
  intro has
  change WA RX7 cX7_errorPosition 1 [] _ _ 0 0 0 [some (.ref 267)] [] n _
  refine wa_aload_n dX7_errorPosition_0 rfl ?_
  refine wa_iconst (x := 0) dX7_errorPosition_1 (by decide) ?_
  refine p_MO (by assumption) 0 dX7_errorPosition_2 fl_X7_3 (by decide) rfl rfl rfl rfl (fun _ _ _ => rfl) (Nat.le_of_ble_eq_true rfl) ?_
  refine wa_aload_n dX7_errorPosition_5 rfl ?_
  refine g_MO (by assumption) 13 dX7_errorPosition_6 fl_X7_34 (by decide) rfl ?_
  exact wa_ireturn dX7_errorPosition_9 ⟨Nat.le_refl _, Nat.le_refl _, ⟨_, rfl, rfl⟩, (ri (th_k S 0 (by decide))), rfl, rfl⟩
theorem mm_undoCount {n : Nat} {S : SS} (hn : 279 ≤ n) : AM yX7_undoCount cX7_undoCount 1 (some .int) [] 0 0 0 [.ref 267] n (Hp S) (PI (S.1 267 18) n (th S 0)) := by
  intro has
  change WA RX7 cX7_undoCount 1 [] _ _ 0 0 0 [some (.ref 267)] [] n _
  refine wa_aload_n dX7_undoCount_0 rfl ?_
  refine wa_iconst (x := 0) dX7_undoCount_1 (by decide) ?_
  refine p_MO (by assumption) 0 dX7_undoCount_2 fl_X7_3 (by decide) rfl rfl rfl rfl (fun _ _ _ => rfl) (Nat.le_of_ble_eq_true rfl) ?_
  refine wa_aload_n dX7_undoCount_5 rfl ?_
  refine g_MO (by assumption) 18 dX7_undoCount_6 fl_X7_421 (by decide) rfl ?_
  exact wa_ireturn dX7_undoCount_9 ⟨Nat.le_refl _, Nat.le_refl _, ⟨_, rfl, rfl⟩, (ri (th_k S 0 (by decide))), rfl, rfl⟩
