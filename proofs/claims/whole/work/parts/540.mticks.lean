/-! ValveRoomModel: many ticks; a plan more. Written by program (wip/whole/gen/m540.py) but for the heads. -/
theorem drop_pl {g : Nat → Int32} {m k w : Nat} (hw : w < 3) (hk : k < pn g - m) : f_drop 0 m g (11 + 3 * k + w) = g (11 + 3 * (k + m) + w) := by
  unfold f_drop
  rw [if_neg (by omega), if_pos (by omega)]
  congr 1
  omega
theorem VG_kp {T : Int} {g g' : Nat → Int32} (h : VG T g) (e : kp g g') : VG T g' := by
  have e1 := e.2 1 (by decide)
  have e0 := e.2 0 (by decide)
  have e3 := e.2 3 (by decide)
  have ep : pn g' = pn g := congrArg (fun x : Int32 => x.toInt.toNat) e3
  refine ⟨by rw [e1]; exact h.1, by rw [e0]; exact h.2.1, by rw [e3]; exact h.2.2.1, fun k hk => ?_, fun i => by rw [e.1]; exact h.2.2.2.2 i⟩
  rw [ep] at hk
  have := (VG_pn h).2
  rw [e.2 _ (by omega)]
  exact h.2.2.2.1 k hk
theorem i_subN {x : Int32} {m : Nat} (h0 : 0 ≤ x.toInt) (h : m ≤ x.toInt.toNat) : (x - nI m).toInt = x.toInt - m := by
  have e := (nI_of_nn h0).2
  have e2 := nI_toInt (n := m) (by omega)
  rw [i_sub (by omega) (by omega), e2]
theorem VG_drop {T : Int} {g : Nat → Int32} {m : Nat} (h : VG T g) (hm : m ≤ pn g) : VG T (f_drop 0 m g) := by
  have hp := (VG_pn h).2
  have e3 : (f_drop 0 m g 3).toInt = (g 3).toInt - m := i_subN h.2.2.1.1 hm
  have e1 : f_drop 0 m g 1 = g 1 := drop_lo (by decide) (by decide)
  have e0 : f_drop 0 m g 0 = g 0 := drop_lo (by decide) (by decide)
  have ep : pn (f_drop 0 m g) = pn g - m := by unfold pn; rw [e3]; have := h.2.2.1.1; omega
  refine ⟨by rw [e1]; exact h.1, by rw [e0]; exact h.2.1, ?_, fun k hk => ?_, fun i => by rw [drop_pg hp]; exact h.2.2.2.2 i⟩
  · rw [e3]
    have := h.2.2.1
    unfold pn at hm
    omega
  · rw [ep] at hk
    rw [drop_pl (by decide) hk]
    exact h.2.2.2.1 (k + m) (by omega)
theorem VG_due {T : Int} {g : Nat → Int32} (h : VG T g) : VG T (f_due g) := by
  have kc := kp_cars g (dueN g)
  refine VG_drop (VG_kp h kc) ?_
  have : pn (f_cars g (dueN g)) = pn g := congrArg (fun x : Int32 => x.toInt.toNat) (kc.2 3 (by decide))
  rw [this]
  exact dueN_le g
theorem VG_tick {T : Int} {g : Nat → Int32} (h : VG T g) (hT : T < 2147483647) : VG (T + 1) (f_tick g) := VG_kp (VG_due (VG_time h hT)) (kp_goOns _ _)
theorem VG_le {T T' : Int} {g : Nat → Int32} (h : VG T g) (hT : T ≤ T') : VG T' g := ⟨⟨h.1.1, Int.le_trans h.1.2 hT⟩, h.2⟩
def ticksN (g : Nat → Int32) : Nat → Nat → Int32
  | 0 => g
  | k + 1 => f_tick (ticksN g k)
theorem VG_ticks {T : Int} {g : Nat → Int32} (h : VG T g) : ∀ k : Nat, T + k < 2147483648 → VG (T + k) (ticksN g k)
  | 0, _ => by
    have : T + (0 : Nat) = T := by omega
    rw [this]; exact h
  | k + 1, hk => by
    have := VG_tick (VG_ticks h k (by omega)) (by omega)
    refine VG_le this (by omega)
theorem lp_ticks {Q : ab_Q} {n N : Nat} {S : SS} {T : Int} (g : Nat → Int32) (hn : 279 ≤ n) (hN : N < 2147483647) (hV : VG T g) (hT : T + N < 2147483648) (hQ : Q (.inl none) 0 0 n (Hp (md (fun _ => ticksN g N) S))) :
    ∀ (r k : Nat), k + r = N → WA RX7 cX7_ticks 3 [] (ab_rm 8 0 0) Q 0 0 2 [some (.ref 267), some (.int (nI N)), some (.int (nI k))] [] n (Hp (md (fun _ => ticksN g k) S)) := by
  intro r
  induction r with
  | zero =>
    intro k hk
    have hk' : k = N := by omega
    subst hk'
    refine wa_iload_n dX7_ticks_2 rfl ?_
    refine wa_iload_n dX7_ticks_3 rfl ?_
    refine wa_icmp_ge 17 dX7_ticks_4 rfl (fun c4 => ?_) (fun c4 => absurd (nI_le (Nat.le_refl _) (by omega)) c4)
    exact wa_return dX7_ticks_17 hQ
  | succ r ih =>
    intro k hk
    have eV : VG (T + k) (row (md (fun _ => ticksN g k) S)) := by rw [md_row]; exact VG_ticks hV k (by omega)
    refine wa_iload_n dX7_ticks_2 rfl ?_
    refine wa_iload_n dX7_ticks_3 rfl ?_
    refine wa_icmp_ge 17 dX7_ticks_4 rfl (fun c4 => absurd c4 (nI_ge (a := k) (b := N) (by omega) (by omega))) (fun c4 => ?_)
    refine wa_aload_n dX7_ticks_7 rfl ?_
    refine c_VV dX7_ticks_8 (mm_tickOnce (by assumption) eV (by omega)) lk_X7_144 rfl (isO_MO _ _ _) rfl (ltS (by assumption)) ?_
    rw [md_c]
    refine wa_iinc (y := 1) dX7_ticks_11 rfl (by decide) rfl ?_
    refine wa_goto 2 dX7_ticks_14 rfl ?_
    rw [nI_1 k]
    exact ih (k + 1) (by omega)
theorem mm_ticks {n N : Nat} {S : SS} {T : Int} (hn : 279 ≤ n) (hN : N < 2147483647) (hV : VG T (row S)) (hT : T + N < 2147483648) : AM yX7_ticks cX7_ticks 3 none [] 8 0 0 [.ref 267, .int (nI N)] n (Hp S) (PV n (md (fun g => ticksN g N) S)) := by
  intro has
  change WA RX7 cX7_ticks 3 [] _ _ 0 0 0 [some (.ref 267), some (.int (nI N)), none] [] n _
  refine wa_iconst (x := 0) dX7_ticks_0 (by decide) ?_
  refine wa_istore_n dX7_ticks_1 rfl ?_
  have K := lp_ticks (n := n) (N := N) (S := S) (row S) hn hN hV hT (Q := fun r k z n' h' => k ≤ 0 ∧ z ≤ 0 ∧ ab_rok none r ∧ PV n (md (fun g => ticksN g N) S) r n' h') ⟨Nat.le_refl _, Nat.le_refl _, rfl, rfl, rfl, rfl⟩ N 0 (Nat.zero_add _)
  exact (congrArg (fun s => WA RX7 cX7_ticks 3 [] (ab_rm 8 0 0) (fun r k z n' h' => k ≤ 0 ∧ z ≤ 0 ∧ ab_rok none r ∧ PV n (md (fun g => ticksN g N) S) r n' h') 0 0 2 [some (.ref 267), some (.int (nI N)), some (.int (nI 0))] [] n (Hp s)) (md_self S)).mp K
theorem mm_later {n N i w : Nat} {S : SS} {T : Int} (hn : 279 ≤ n) (hN : N < 2147483647) (hi : i < 6) (hw : w < 66) (hV : VG T (row S)) (hT : T + N < 2147483648) : AM yX7_later cX7_later 4 (some .int) [] 9 0 0 [.ref 267, .int (nI i), .int (nI w), .int (nI N)] n (Hp S) (PI (of (ticksN (row S) N) i w) n (md (fun g => ticksN g N) S)) := by
  intro has
  change WA RX7 cX7_later 4 [] _ _ 0 0 0 [some (.ref 267), some (.int (nI i)), some (.int (nI w)), some (.int (nI N))] [] n _
  refine wa_aload_n dX7_later_0 rfl ?_
  refine wa_iload_n dX7_later_1 rfl ?_
  refine c_VV dX7_later_2 (mm_ticks hn hN hV hT) lk_X7_147 rfl (isO_MO _ _ _) rfl (ltS (by assumption)) ?_
  refine wa_aload_n dX7_later_5 rfl ?_
  refine wa_iload_n dX7_later_6 rfl ?_
  refine wa_iload_n dX7_later_7 rfl ?_
  refine c_VI dX7_later_8 (mm_of2 (w := w) hn hi hw) lk_X7_68 rfl (isO_MO _ _ _) rfl (ltS (by assumption)) ?_
  rw [md_row]
  exact wa_ireturn dX7_later_11 ⟨Nat.le_refl _, Nat.le_refl _, ⟨_, rfl, rfl⟩, rfl, rfl, rfl⟩
def sumN (g : Nat → Int32) (w : Nat) : Nat → Int32
  | 0 => 0
  | k + 1 => sumN g w k + of g k w
theorem lp_sumOf {Q : ab_Q} {n c w : Nat} {S : SS} (hn : 279 ≤ n) (hw : w < 66) (hc : c ≤ 6) (h0 : row S 0 = nI c) (hQ : Q (.inl (some (.int (sumN (row S) w c)))) 0 0 n (Hp S)) :
    ∀ (r k : Nat), k + r = c → WA RX7 cX7_sumOf 4 [] (ab_rm 1 0 0) Q 0 0 4 [some (.ref 267), some (.int (nI w)), some (.int (sumN (row S) w k)), some (.int (nI k))] [] n (Hp S) := by
  intro r
  induction r with
  | zero =>
    intro k hk
    have hk' : c = k := by omega
    subst hk'
    refine wa_iload_n dX7_sumOf_4 rfl ?_
    refine wa_aload_n dX7_sumOf_5 rfl ?_
    refine c_VI dX7_sumOf_6 (mm_rooms (by assumption)) lk_X7_56 rfl (isO_MO _ _ _) rfl (ltS (by assumption)) ?_
    rw [show S.1 (mr S) 0 = nI c from h0]
    refine wa_icmp_ge 27 dX7_sumOf_9 rfl (fun c9 => ?_) (fun c9 => absurd (nI_le (Nat.le_refl _) (by omega)) c9)
    refine wa_iload_n dX7_sumOf_27 rfl ?_
    exact wa_ireturn dX7_sumOf_28 hQ
  | succ r ih =>
    intro k hk
    refine wa_iload_n dX7_sumOf_4 rfl ?_
    refine wa_aload_n dX7_sumOf_5 rfl ?_
    refine c_VI dX7_sumOf_6 (mm_rooms (by assumption)) lk_X7_56 rfl (isO_MO _ _ _) rfl (ltS (by assumption)) ?_
    rw [show S.1 (mr S) 0 = nI c from h0]
    refine wa_icmp_ge 27 dX7_sumOf_9 rfl (fun c9 => absurd c9 (nI_ge (a := k) (b := c) (by omega) (by omega))) (fun c9 => ?_)
    refine wa_iload_n dX7_sumOf_12 rfl ?_
    refine wa_aload_n dX7_sumOf_13 rfl ?_
    refine wa_iload_n dX7_sumOf_14 rfl ?_
    refine wa_iload_n dX7_sumOf_15 rfl ?_
    refine c_VI dX7_sumOf_16 (mm_of2 (w := w) (i := k) hn (by omega) hw) lk_X7_68 rfl (isO_MO _ _ _) rfl (ltS (by assumption)) ?_
    refine wa_iadd dX7_sumOf_19 ?_
    refine wa_istore_n dX7_sumOf_20 rfl ?_
    refine wa_iinc (y := 1) dX7_sumOf_21 rfl (by decide) rfl ?_
    refine wa_goto 4 dX7_sumOf_24 rfl ?_
    rw [nI_1 k]
    exact ih (k + 1) (by omega)
theorem mm_sumOf {n w : Nat} {S : SS} {T : Int} (hn : 279 ≤ n) (hw : w < 66) (hV : VG T (row S)) : AM yX7_sumOf cX7_sumOf 4 (some .int) [] 1 0 0 [.ref 267, .int (nI w)] n (Hp S) (PI (sumN (row S) w (rn (row S))) n S) := by
  intro has
  change WA RX7 cX7_sumOf 4 [] _ _ 0 0 0 [some (.ref 267), some (.int (nI w)), none, none] [] n _
  refine wa_iconst (x := 0) dX7_sumOf_0 (by decide) ?_
  refine wa_istore_n dX7_sumOf_1 rfl ?_
  refine wa_iconst (x := 0) dX7_sumOf_2 (by decide) ?_
  refine wa_istore_n dX7_sumOf_3 rfl ?_
  exact lp_sumOf hn hw (VG_rn hV).2 (VG_rn hV).1 ⟨Nat.le_refl _, Nat.le_refl _, ⟨_, rfl, rfl⟩, rfl, rfl, rfl⟩ (rn (row S)) 0 (Nat.zero_add _)
theorem pg_0 {T : Int} {g : Nat → Int32} {i t : Nat} (h : VG T g) (ht : t < 48) : (0 : Int32) < g (71 + 66 * i + (18 + t)) ↔ ¬ pg g i t = 0 := by
  rw [pg_at (g := g) (i := i) ht]
  exact (h.2.2.2.2 i).pos t
theorem lp_entries {Q : ab_Q} {n i : Nat} {S : SS} {T : Int} (hn : 279 ≤ n) (hi : i < 6) (hV : VG T (row S)) (hQ : Q (.inl (some (.int (nI (cnt (pg (row S) i) 48))))) 0 0 n (Hp S)) :
    ∀ (r t : Nat), t + r = 48 → WA RX7 cX7_entries 4 [] (ab_rm 2 0 0) Q 0 0 4 [some (.ref 267), some (.int (nI i)), some (.int (nI (cnt (pg (row S) i) t))), some (.int (nI t))] [] n (Hp S) := by
  intro r
  induction r with
  | zero =>
    intro t hk
    have hk' : t = 48 := by omega
    subst hk'
    refine wa_iload_n dX7_entries_4 rfl ?_
    refine wa_bipush (x := 48) dX7_entries_5 (by decide) ?_
    refine wa_icmp_ge 33 dX7_entries_7 rfl (fun c7 => ?_) (fun c7 => absurd (nI_le (a := 48) (Nat.le_refl _) (by omega)) c7)
    refine wa_iload_n dX7_entries_33 rfl ?_
    exact wa_ireturn dX7_entries_34 hQ
  | succ r ih =>
    intro t hk
    have e := pg_0 (i := i) (t := t) hV (by omega)
    refine wa_iload_n dX7_entries_4 rfl ?_
    refine wa_bipush (x := 48) dX7_entries_5 (by decide) ?_
    refine wa_icmp_ge 33 dX7_entries_7 rfl (fun c7 => absurd c7 (nI_ge (a := t) (b := 48) (by omega) (by omega))) (fun c7 => ?_)
    refine wa_iload_n dX7_entries_10 rfl ?_
    refine wa_aload_n dX7_entries_11 rfl ?_
    refine wa_iload_n dX7_entries_12 rfl ?_
    refine wa_iload_n dX7_entries_13 rfl ?_
    refine c_VI dX7_entries_14 (mm_programAt (i := i) (t := t) hn hi (by omega)) lk_X7_72 rfl (isO_MO _ _ _) rfl (ltS (by assumption)) ?_
    refine wa_if_le 24 dX7_entries_17 rfl (fun c17 => ?_) (fun c17 => ?_)
    · refine wa_iconst (x := 0) dX7_entries_24 (by decide) ?_
      refine wa_iadd dX7_entries_25 ?_
      refine wa_istore_n dX7_entries_26 rfl ?_
      refine wa_iinc (y := 1) dX7_entries_27 rfl (by decide) rfl ?_
      refine wa_goto 4 dX7_entries_30 rfl ?_
      first
      | (have c := Classical.byContradiction (fun z => Int32.not_lt.mpr c17 (e.mpr z))
         rw [nI_1 t, Int32.add_zero, ← cnt_s0 c]
         exact ih (t + 1) (by omega))
      | (rw [nI_1 t, nI_1, ← cnt_s1 (e.mp (Int32.not_le.mp c17))]
         exact ih (t + 1) (by omega))
    · refine wa_iconst (x := 1) dX7_entries_20 (by decide) ?_
      refine wa_goto 25 dX7_entries_21 rfl ?_
      refine wa_iadd dX7_entries_25 ?_
      refine wa_istore_n dX7_entries_26 rfl ?_
      refine wa_iinc (y := 1) dX7_entries_27 rfl (by decide) rfl ?_
      refine wa_goto 4 dX7_entries_30 rfl ?_
      first
      | (have c := Classical.byContradiction (fun z => Int32.not_lt.mpr c17 (e.mpr z))
         rw [nI_1 t, Int32.add_zero, ← cnt_s0 c]
         exact ih (t + 1) (by omega))
      | (rw [nI_1 t, nI_1, ← cnt_s1 (e.mp (Int32.not_le.mp c17))]
         exact ih (t + 1) (by omega))
theorem mm_entries {n i : Nat} {S : SS} {T : Int} (hn : 279 ≤ n) (hi : i < 6) (hV : VG T (row S)) : AM yX7_entries cX7_entries 4 (some .int) [] 2 0 0 [.ref 267, .int (nI i)] n (Hp S) (PI (nI (cnt (pg (row S) i) 48)) n S) := by
  intro has
  change WA RX7 cX7_entries 4 [] _ _ 0 0 0 [some (.ref 267), some (.int (nI i)), none, none] [] n _
  refine wa_iconst (x := 0) dX7_entries_0 (by decide) ?_
  refine wa_istore_n dX7_entries_1 rfl ?_
  refine wa_iconst (x := 0) dX7_entries_2 (by decide) ?_
  refine wa_istore_n dX7_entries_3 rfl ?_
  exact lp_entries hn hi hV ⟨Nat.le_refl _, Nat.le_refl _, ⟨_, rfl, rfl⟩, rfl, rfl, rfl⟩ 48 0 (Nat.zero_add _)
