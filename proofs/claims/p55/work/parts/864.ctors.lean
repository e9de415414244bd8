/-! CONSTRUCTORS: the cells they make are a block behind the object. Written by program (wip/whole/gen/m864.py) but for the heads. -/
/-- m cells from b on, as E says -/
def blk (h : ab_H) (b m : Nat) (E : Nat → va_E) : ab_H := fun k => if b ≤ k ∧ k < b + m then E (k - b) else h k
theorem blk_1 {h : ab_H} {b : Nat} {e : va_E} (he : h b = e) : h = blk h b 1 (fun _ => e) := by
  funext k
  unfold blk
  by_cases hk : b ≤ k ∧ k < b + 1
  · rw [if_pos hk, ← he, show k = b by omega]
  · rw [if_neg hk]
theorem blk_at {h : ab_H} {b m o : Nat} {E : Nat → va_E} (ho : o < m) : blk h b m E (b + o) = E o := by
  unfold blk
  rw [if_pos ⟨Nat.le_add_right _ _, by omega⟩, show b + o - b = o by omega]
theorem blk_at0 {h : ab_H} {b m : Nat} {E : Nat → va_E} (ho : 0 < m) : blk h b m E b = E 0 := blk_at (o := 0) ho
theorem blk_cg {h : ab_H} {b m : Nat} {E E' : Nat → va_E} (he : ∀ o, o < m → E o = E' o) : blk h b m E = blk h b m E' := by
  funext k
  unfold blk
  by_cases hk : b ≤ k ∧ k < b + m
  · rw [if_pos hk, if_pos hk, he _ (by omega)]
  · rw [if_neg hk, if_neg hk]
theorem blk_up {h : ab_H} {b m o : Nat} {E : Nat → va_E} {e : va_E} (ho : o < m) : ab_up (blk h b m E) (b + o) e = blk h b m (ab_up E o e) := by
  funext k
  unfold blk ab_up
  dsimp only
  by_cases hk : k = b + o
  · subst hk
    rw [if_pos rfl, if_pos ⟨Nat.le_add_right _ _, by omega⟩, if_pos (by omega)]
  · rw [if_neg hk]
    by_cases h2 : b ≤ k ∧ k < b + m
    · rw [if_pos h2, if_pos h2, if_neg (by omega)]
    · rw [if_neg h2, if_neg h2]
theorem blk_up0 {h : ab_H} {b m : Nat} {E : Nat → va_E} {e : va_E} (ho : 0 < m) : ab_up (blk h b m E) b e = blk h b m (ab_up E 0 e) := blk_up (o := 0) ho
theorem blk_new {h : ab_H} {b m : Nat} {E : Nat → va_E} {e : va_E} : ab_up (blk h b m E) (b + m) e = blk h b (m + 1) (ab_up E m e) := by
  funext k
  unfold blk ab_up
  dsimp only
  by_cases hk : k = b + m
  · subst hk
    rw [if_pos rfl, if_pos ⟨Nat.le_add_right _ _, by omega⟩, if_pos (by omega)]
  · rw [if_neg hk]
    by_cases h2 : b ≤ k ∧ k < b + m
    · rw [if_pos h2, if_pos (by omega), if_neg (by omega)]
    · rw [if_neg h2, if_neg (by omega)]
def jn (m : Nat) (E F : Nat → va_E) : Nat → va_E := fun o => if o < m then E o else F (o - m)
theorem jn_l {m o : Nat} {E F : Nat → va_E} (h : o < m) : jn m E F o = E o := if_pos h
theorem jn_r {m o : Nat} {E F : Nat → va_E} (h : m ≤ o) : jn m E F o = F (o - m) := if_neg (by omega)
theorem blk_call {h : ab_H} {b m c : Nat} {E F : Nat → va_E} {x : va_E} (hc : 0 < c) : blk (ab_up (blk h b m E) (b + m) x) (b + m) c F = blk h b (m + c) (jn m E F) := by
  funext k
  unfold blk ab_up jn
  dsimp only
  by_cases h1 : b + m ≤ k ∧ k < b + m + c
  · rw [if_pos h1, if_pos (by omega), if_neg (by omega), show k - b - m = k - (b + m) by omega]
  · rw [if_neg h1, if_neg (by omega)]
    by_cases h2 : b ≤ k ∧ k < b + m
    · rw [if_pos h2, if_pos (by omega), if_pos (by omega)]
    · rw [if_neg h2, if_neg (by omega)]
theorem wf_d {fs : List Value} (h : fs.all (fun v => match v with | .ref _ => false | _ => true) = true) : ∀ v ∈ fs, ab_wv 0 v := fun v hv => by
  have := List.all_eq_true.mp h v hv
  cases v <;> first | trivial | cases this
theorem up_at (E : Nat → va_E) (k : Nat) (e : va_E) : ab_up E k e k = e := if_pos rfl
theorem WX_h {Xx : ab_X} {own : String} {cc : ByteArray} {nL : Nat} {hh : List (Nat × Nat × Nat × Nat)} {R : Room} {Q : ab_Q} {k z pc : Nat} {ls : List (Option Value)} {st : List Value} {n : Nat} {h h2 : ab_H} (e : h = h2) (K : WX Xx own cc nL hh R Q k z pc ls st n h2) : WX Xx own cc nL hh R Q k z pc ls st n h := by
  rw [e]
  exact K
section CN
variable {own : String} {cc : ByteArray} {nL : Nat} {hh : List (Nat × Nat × Nat × Nat)} {R : Room} {Q : ab_Q} {k z pc : Nat} {ls : List (Option Value)} {st : List Value} {n : Nat} {h : ab_H}
theorem wa_newI {x : Int32} {len : Nat} (d : decode cc pc = .ok (.newarray .int, 2)) (hx : x.toInt = (len : Int)) (hb : len ≤ 100000000) (hn1 : n + 1 < ab_CB) (hcells : k + 1 ≤ R.cells) (hslots : z + len ≤ R.slots) (K : WA own cc nL hh R Q (k + 1) (z + len) (pc + 2) ls (.ref n :: st) (n + 1) (ab_up h n (.inl (0, len, .inl (fun _ => 0))))) : WA own cc nL hh R Q k z pc ls (.int x :: st) n h :=
  wa_newa (ty := .int) (t := 0) (a0 := (len, .inl (fun _ => 0))) d wa_cls_int rfl rfl (by decide) hx (fun _ => rfl) (fun _ => rfl) trivial (by show len * 4 ≤ _; omega) hn1 hcells hslots K
theorem wa_newZ {x : Int32} {len : Nat} (d : decode cc pc = .ok (.newarray .boolean, 2)) (hx : x.toInt = (len : Int)) (hb : len ≤ 100000000) (hn1 : n + 1 < ab_CB) (hcells : k + 1 ≤ R.cells) (hslots : z + len ≤ R.slots) (K : WA own cc nL hh R Q (k + 1) (z + len) (pc + 2) ls (.ref n :: st) (n + 1) (ab_up h n (.inl (2, len, .inl (fun _ => 0))))) : WA own cc nL hh R Q k z pc ls (.int x :: st) n h :=
  wa_newa (ty := .boolean) (t := 2) (a0 := (len, .inl (fun _ => 0))) d wa_cls_boolean rfl rfl (by decide) hx (fun _ => rfl) (fun _ => rfl) trivial (by show len * 1 ≤ _; omega) hn1 hcells hslots K
end CN
def dRO : List Value := [.null, .int 0, .int 0, .int 0, .int 0, .int 0, .int 0, .int 0, .int 0, .int 0, .int 0, .int 0, .null, .null, .int 0]
def rF (b : Nat) : Nat → va_E := fun o => if o = 0 then .inr (3, [.ref ab_CB, .int 0, .int 0, .int 0, .int 0, .int 0, .int 0, .int 0, .int 0, .int 0, .int 0, .int 0, .ref (b + 1), .ref (b + 2), .int 0]) else if o = 1 then .inl (0, 6, .inl (fun _ => 0)) else .inl (0, 48, .inl (fun _ => 0))
theorem ct_room {b : Nat} {h : ab_H} (hn : b + 3 < ab_CB) (hbe : h b = .inr (3, dRO)) : AMi yX4_init cX4_init 1 none [] 0 2 54 [.ref b] (b + 1) h (fun r n' h' => r = .inl none ∧ n' = b + 3 ∧ h' = blk h b 3 (rF b)) := by
  intro has
  change WA RX4 cX4_init 1 [] _ _ 0 0 0 [some (.ref b)] [] (b + 1) _
  refine WX_h (blk_1 hbe) ?_
  refine wa_aload_n dX4_init_0 rfl ?_
  refine wa_objInit dX4_init_1 wl_X4_3 wi_obj wc_obj (by simp [ab_ric]) ?_
  refine wa_aload_n dX4_init_4 rfl ?_
  refine wa_ldcS (j := 0) dX4_init_5 rfl ?_
  refine wa_putf (v := .ref (ab_CB + 2 * 0)) (ty := .object "java/lang/String") 0 tyX4 dX4_init_7 fl_X4_11 cl_RO.1 cl_RO.2.1 cl_RO.2.2.1 cl_RO.2.2.2 (by decide) rfl rfl (fun _ => rfl) (fun _ => rfl) (by omega) (blk_at0 (by decide)) (by exact Nat.le_of_ble_eq_true rfl) ?_
  rw [blk_up0 (by decide)]
  refine wa_aload_n dX4_init_10 rfl ?_
  refine wa_bipush (x := 6) dX4_init_11 (by decide) ?_
  refine wa_newI (len := 6) dX4_init_13 rfl (by exact Nat.le_of_ble_eq_true rfl) (by omega) (by simp [ab_ric]) (by simp [ab_ric]) ?_
  rw [blk_new]
  refine wa_putF (v := .ref (b + 1)) (ty := .array .int) 12 tyX4 dX4_init_15 fl_X4_17 cl_RO.1 cl_RO.2.1 cl_RO.2.2.1 cl_RO.2.2.2 (by decide) rfl (by simp [ab_ric]) rfl rfl (fun _ => rfl) (fun _ => rfl) (by omega) (blk_at0 (by decide)) (by exact Nat.le_of_ble_eq_true rfl) ?_
  rw [blk_up0 (by decide)]
  refine wa_aload_n dX4_init_18 rfl ?_
  refine wa_bipush (x := 48) dX4_init_19 (by decide) ?_
  refine wa_newI (len := 48) dX4_init_21 rfl (by exact Nat.le_of_ble_eq_true rfl) (by omega) (by simp [ab_ric]) (by simp [ab_ric]) ?_
  rw [blk_new]
  refine wa_putF (v := .ref (b + 2)) (ty := .array .int) 13 tyX4 dX4_init_23 fl_X4_21 cl_RO.1 cl_RO.2.1 cl_RO.2.2.1 cl_RO.2.2.2 (by decide) rfl (by simp [ab_ric]) rfl rfl (fun _ => rfl) (fun _ => rfl) (by omega) (blk_at0 (by decide)) (by exact Nat.le_of_ble_eq_true rfl) ?_
  rw [blk_up0 (by decide)]
  exact wa_return dX4_init_26 ⟨by simp, by simp, rfl, rfl, rfl, by
      refine blk_cg (m := 3) (fun o ho => ?_)
      have hh : o = 0 ∨ o = 1 ∨ o = 2 := by omega
      rcases hh with rfl | rfl | rfl <;> rfl⟩
def iHO (r q1 q2 q3 : Nat) : List Value := [.int 0, .int 0, .int 0, .int 0, .int 0, .int 0, .int 0, .int 0, .int 0, .int 0, .ref r, .int 0, .ref q1, .ref q2, .ref q3]
def eHO (r q1 q2 q3 : Nat) : List Value := [.int 0, .int 50, .int 8, .int 3, .int 30, .int 3, .int 5, .int 20, .int 100, .int 0, .ref r, .int 0, .ref q1, .ref q2, .ref q3]
theorem ct_empty {n b r q1 q2 q3 : Nat} {h : ab_H} (hb : b < n) (hbe : h b = .inr (2, iHO r q1 q2 q3)) : AM yX1_empty cX1_empty 1 none [] 0 0 0 [.ref b] n h (fun r0 n' h' => r0 = .inl none ∧ n' = n ∧ h' = ab_up h b (.inr (2, eHO r q1 q2 q3))) := by
  intro has
  change WA RX1 cX1_empty 1 [] _ _ 0 0 0 [some (.ref b)] [] n _
  refine wa_aload_n dX1_empty_0 rfl ?_
  refine wa_iconst (x := 0) dX1_empty_1 (by decide) ?_
  refine wa_putf (v := .int 0) (ty := .int) 0 tyX1 dX1_empty_2 fl_X1_31 cl_HO.1 cl_HO.2.1 cl_HO.2.2.1 cl_HO.2.2.2 (by decide) rfl rfl (fun _ => rfl) (fun _ => rfl) hb hbe (by exact Nat.le_of_ble_eq_true rfl) ?_
  refine wa_aload_n dX1_empty_5 rfl ?_
  refine wa_bipush (x := 50) dX1_empty_6 (by decide) ?_
  refine wa_putf (v := .int 50) (ty := .int) 1 tyX1 dX1_empty_8 fl_X1_35 cl_HO.1 cl_HO.2.1 cl_HO.2.2.1 cl_HO.2.2.2 (by decide) rfl rfl (fun _ => rfl) (fun _ => rfl) hb (ab_up_s _ _ _) (by exact Nat.le_of_ble_eq_true rfl) ?_
  rw [up_up7]
  refine wa_aload_n dX1_empty_11 rfl ?_
  refine wa_bipush (x := 8) dX1_empty_12 (by decide) ?_
  refine wa_putf (v := .int 8) (ty := .int) 2 tyX1 dX1_empty_14 fl_X1_38 cl_HO.1 cl_HO.2.1 cl_HO.2.2.1 cl_HO.2.2.2 (by decide) rfl rfl (fun _ => rfl) (fun _ => rfl) hb (ab_up_s _ _ _) (by exact Nat.le_of_ble_eq_true rfl) ?_
  rw [up_up7]
  refine wa_aload_n dX1_empty_17 rfl ?_
  refine wa_iconst (x := 3) dX1_empty_18 (by decide) ?_
  refine wa_putf (v := .int 3) (ty := .int) 3 tyX1 dX1_empty_19 fl_X1_41 cl_HO.1 cl_HO.2.1 cl_HO.2.2.1 cl_HO.2.2.2 (by decide) rfl rfl (fun _ => rfl) (fun _ => rfl) hb (ab_up_s _ _ _) (by exact Nat.le_of_ble_eq_true rfl) ?_
  rw [up_up7]
  refine wa_aload_n dX1_empty_22 rfl ?_
  refine wa_bipush (x := 30) dX1_empty_23 (by decide) ?_
  refine wa_putf (v := .int 30) (ty := .int) 4 tyX1 dX1_empty_25 fl_X1_44 cl_HO.1 cl_HO.2.1 cl_HO.2.2.1 cl_HO.2.2.2 (by decide) rfl rfl (fun _ => rfl) (fun _ => rfl) hb (ab_up_s _ _ _) (by exact Nat.le_of_ble_eq_true rfl) ?_
  rw [up_up7]
  refine wa_aload_n dX1_empty_28 rfl ?_
  refine wa_iconst (x := 3) dX1_empty_29 (by decide) ?_
  refine wa_putf (v := .int 3) (ty := .int) 5 tyX1 dX1_empty_30 fl_X1_47 cl_HO.1 cl_HO.2.1 cl_HO.2.2.1 cl_HO.2.2.2 (by decide) rfl rfl (fun _ => rfl) (fun _ => rfl) hb (ab_up_s _ _ _) (by exact Nat.le_of_ble_eq_true rfl) ?_
  rw [up_up7]
  refine wa_aload_n dX1_empty_33 rfl ?_
  refine wa_iconst (x := 5) dX1_empty_34 (by decide) ?_
  refine wa_putf (v := .int 5) (ty := .int) 6 tyX1 dX1_empty_35 fl_X1_50 cl_HO.1 cl_HO.2.1 cl_HO.2.2.1 cl_HO.2.2.2 (by decide) rfl rfl (fun _ => rfl) (fun _ => rfl) hb (ab_up_s _ _ _) (by exact Nat.le_of_ble_eq_true rfl) ?_
  rw [up_up7]
  refine wa_aload_n dX1_empty_38 rfl ?_
  refine wa_bipush (x := 20) dX1_empty_39 (by decide) ?_
  refine wa_putf (v := .int 20) (ty := .int) 7 tyX1 dX1_empty_41 fl_X1_53 cl_HO.1 cl_HO.2.1 cl_HO.2.2.1 cl_HO.2.2.2 (by decide) rfl rfl (fun _ => rfl) (fun _ => rfl) hb (ab_up_s _ _ _) (by exact Nat.le_of_ble_eq_true rfl) ?_
  rw [up_up7]
  refine wa_aload_n dX1_empty_44 rfl ?_
  refine wa_bipush (x := 100) dX1_empty_45 (by decide) ?_
  refine wa_putf (v := .int 100) (ty := .int) 8 tyX1 dX1_empty_47 fl_X1_56 cl_HO.1 cl_HO.2.1 cl_HO.2.2.1 cl_HO.2.2.2 (by decide) rfl rfl (fun _ => rfl) (fun _ => rfl) hb (ab_up_s _ _ _) (by exact Nat.le_of_ble_eq_true rfl) ?_
  rw [up_up7]
  refine wa_aload_n dX1_empty_50 rfl ?_
  refine wa_iconst (x := 0) dX1_empty_51 (by decide) ?_
  refine wa_putf (v := .int 0) (ty := .int) 9 tyX1 dX1_empty_52 fl_X1_59 cl_HO.1 cl_HO.2.1 cl_HO.2.2.1 cl_HO.2.2.2 (by decide) rfl rfl (fun _ => rfl) (fun _ => rfl) hb (ab_up_s _ _ _) (by exact Nat.le_of_ble_eq_true rfl) ?_
  rw [up_up7]
  refine wa_aload_n dX1_empty_55 rfl ?_
  refine wa_iconst (x := 0) dX1_empty_56 (by decide) ?_
  refine wa_putf (v := .int 0) (ty := .int) 11 tyX1 dX1_empty_57 fl_X1_62 cl_HO.1 cl_HO.2.1 cl_HO.2.2.1 cl_HO.2.2.2 (by decide) rfl rfl (fun _ => rfl) (fun _ => rfl) hb (ab_up_s _ _ _) (by exact Nat.le_of_ble_eq_true rfl) ?_
  rw [up_up7]
  exact wa_return dX1_empty_60 ⟨by simp, by simp, rfl, rfl, rfl, rfl⟩
def dHO : List Value := [.int 0, .int 0, .int 0, .int 0, .int 0, .int 0, .int 0, .int 0, .int 0, .int 0, .null, .int 0, .null, .null, .null]
/-- a House's cells, i of its rooms made -/
def hE (b i : Nat) : Nat → va_E := fun o => if o = 0 then .inr (2, iHO (b + 1) (b + 2) (b + 3) (b + 4)) else if o = 1 then .inl (7, 6, .inr (.inr (.inr (.inr (fun j => if j < i then some (b + 5 + 3 * j) else none))))) else if o < 5 then .inl (0, 20, .inl (fun _ => 0)) else rF (b + 5 + 3 * ((o - 5) / 3)) ((o - 5) % 3)
def hF (b : Nat) : Nat → va_E := fun o => if o = 0 then .inr (2, eHO (b + 1) (b + 2) (b + 3) (b + 4)) else hE b 6 o
theorem hE_go {b i o : Nat} (ho : o < 5 + 3 * i + 3) : ab_up (jn (5 + 3 * i) (hE b i) (rF (b + (5 + 3 * i)))) 1 (.inl (7, 6, .inr (.inr (.inr (.inr (va_up (fun j => if j < i then some (b + 5 + 3 * j) else none) i (some (b + (5 + 3 * i))))))))) o = hE b (i + 1) o := by
  by_cases h1 : o = 1
  · subst h1
    rw [up_at]
    show _ = Sum.inl (7, 6, Sum.inr (Sum.inr (Sum.inr (Sum.inr (fun j => if j < i + 1 then some (b + 5 + 3 * j) else none)))))
    congr 7
    funext j
    unfold va_up
    dsimp only
    by_cases hj : j = i
    · rw [if_pos hj, if_pos (by omega), hj, Nat.add_assoc]
    · rw [if_neg hj]
      by_cases hj2 : j < i
      · rw [if_pos hj2, if_pos (by omega)]
      · rw [if_neg hj2, if_neg (by omega)]
  · rw [ab_up_n _ _ h1]
    by_cases h2 : o < 5 + 3 * i
    · rw [jn_l h2]
      unfold hE
      rw [if_neg h1, if_neg h1]
    · rw [jn_r (by omega)]
      unfold hE
      rw [if_neg (by omega), if_neg (by omega), if_neg (by omega), show (o - 5) / 3 = i by omega, show (o - 5) % 3 = o - (5 + 3 * i) by omega, Nat.add_assoc]
theorem lp_house {Q : ab_Q} {b : Nat} {h : ab_H} (hn : b + 23 < ab_CB) : ∀ (r k : Nat), k + r = 6 → (WA RX1 cX1_init 2 [] (ab_ric 1 22 480) Q (4 + 3 * 6) (66 + 69 * 6) 67 [some (.ref b), some (.int (nI 6))] [] (b + (5 + 3 * 6)) (blk h b (5 + 3 * 6) (hE b 6))) → WA RX1 cX1_init 2 [] (ab_ric 1 22 480) Q (4 + 3 * k) (66 + 69 * k) 39 [some (.ref b), some (.int (nI k))] [] (b + (5 + 3 * k)) (blk h b (5 + 3 * k) (hE b k)) := by
  intro r
  induction r with
  | zero =>
    intro k hk hQ
    obtain rfl : k = 6 := by omega
    refine wa_iload_n dX1_init_39 rfl ?_
    refine wa_aload_n dX1_init_40 rfl ?_
    refine wa_getf (v := .ref (b + 1)) 10 dX1_init_41 fl_X1_11 cl_HO.1 cl_HO.2.1 (by decide) (Or.inl (by omega)) (blk_at0 (by omega)) rfl ?_
    refine wa_alen (t := 7) (len := 6) dX1_init_44 (by decide) (Or.inl (by omega)) (blk_at (by omega)) rfl ?_
    exact wa_icmp_ge 67 dX1_init_45 rfl (fun _ => hQ) (fun z => absurd (by decide) z)
  | succ r ih =>
    intro k hk hQ
    refine wa_iload_n dX1_init_39 rfl ?_
    refine wa_aload_n dX1_init_40 rfl ?_
    refine wa_getf (v := .ref (b + 1)) 10 dX1_init_41 fl_X1_11 cl_HO.1 cl_HO.2.1 (by decide) (Or.inl (by omega)) (blk_at0 (by omega)) rfl ?_
    refine wa_alen (t := 7) (len := 6) dX1_init_44 (by decide) (Or.inl (by omega)) (blk_at (by omega)) rfl ?_
    refine wa_icmp_ge 67 dX1_init_45 rfl (fun z => absurd z (nI_ge (by omega) (by omega))) (fun _ => ?_)
    refine wa_aload_n dX1_init_48 rfl ?_
    refine wa_getf (v := .ref (b + 1)) 10 dX1_init_49 fl_X1_11 cl_HO.1 cl_HO.2.1 (by decide) (Or.inl (by omega)) (blk_at0 (by omega)) rfl ?_
    refine wa_iload_n dX1_init_52 rfl ?_
    refine wa_new (fs := dRO) tyX4 dX1_init_53 wk_X1_9 wi_X4 wz_X4 cl_RO.1 cl_RO.2.1 cl_RO.2.2.1 (by decide) (fun _ => rfl) (wf_d rfl) (by omega) (by simp [ab_ric]; omega) (by simp [ab_ric]; omega) ?_
    refine wa_dup dX1_init_56 rfl ?_
    refine wa_callINc (As := []) dX1_init_57 lk_X1_27 (ct_room (by omega) (ab_up_s _ _ _)) (fun E n' h' q => by cases q.1) rfl rfl (by exact Nat.le_of_ble_eq_true rfl) (by unfold ab_fitc ab_ric; refine ⟨?_, ?_, ?_, ?_⟩ <;> simp <;> omega) (by exact Nat.le_of_ble_eq_true rfl) (fun ro n' h' q _ => ?_)
    obtain ⟨q1, q2, q3⟩ := q
    rw [q2, q3]
    cases q1
    rw [blk_call (by decide), Nat.add_assoc b]
    refine wa_aastR (len := 6) (j := k) (f := fun j => if j < k then some (b + 5 + 3 * j) else none) (fs := [.ref ab_CB, .int 0, .int 0, .int 0, .int 0, .int 0, .int 0, .int 0, .int 0, .int 0, .int 0, .int 0, .ref (b + (5 + 3 * k) + 1), .ref (b + (5 + 3 * k) + 2), .int 0]) dX1_init_60 (by omega) ((blk_at (o := 1) (by omega)).trans ((jn_l (by omega)).trans rfl)) (nI_toInt (by omega)) (by omega) (by omega) ((blk_at (by omega)).trans ((jn_r (Nat.le_refl _)).trans (by rw [Nat.sub_self]; rfl))) ?_
    rw [blk_up (o := 1) (by omega), blk_cg (fun o ho => hE_go ho)]
    refine wa_iinc (y := 1) dX1_init_61 rfl (by decide) rfl ?_
    refine wa_goto 39 dX1_init_64 rfl ?_
    rw [nI_1 k, show 4 + 3 * k + 1 + 2 = 4 + 3 * (k + 1) by omega, show 66 + 69 * k + 15 + 54 = 66 + 69 * (k + 1) by omega, show 5 + 3 * k + 3 = 5 + 3 * (k + 1) by omega]
    exact ih (k + 1) (by omega) hQ
theorem ct_house {b : Nat} {h : ab_H} (hn : b + 23 < ab_CB) (hbe : h b = .inr (2, dHO)) : AMi yX1_init cX1_init 2 none [] 1 22 480 [.ref b] (b + 1) h (fun r n' h' => r = .inl none ∧ n' = b + 23 ∧ h' = blk h b 23 (hF b)) := by
  intro has
  change WA RX1 cX1_init 2 [] _ _ 0 0 0 [some (.ref b), none] [] (b + 1) _
  refine WX_h (blk_1 hbe) ?_
  refine wa_aload_n dX1_init_0 rfl ?_
  refine wa_objInit dX1_init_1 wl_X1_3 wi_obj wc_obj (by simp [ab_ric]) ?_
  refine wa_aload_n dX1_init_4 rfl ?_
  refine wa_bipush (x := 6) dX1_init_5 (by decide) ?_
  refine wa_newq (t := 7) (len := 6) (C := RX4) dX1_init_7 wk_X1_9 (by decide +kernel) rfl rfl (by exact Nat.le_of_ble_eq_true rfl) (by omega) (by simp [ab_ric]) (by simp [ab_ric]) ?_
  rw [blk_new]
  refine wa_putF (v := .ref (b + 1)) (ty := .array (.object "ValveRoom$Room")) 10 tyX1 dX1_init_10 fl_X1_11 cl_HO.1 cl_HO.2.1 cl_HO.2.2.1 cl_HO.2.2.2 (by decide) rfl (by simp [ab_ric]) rfl rfl (fun _ => rfl) (fun _ => rfl) (by omega) (blk_at0 (by decide)) (by exact Nat.le_of_ble_eq_true rfl) ?_
  rw [blk_up0 (by decide)]
  refine wa_aload_n dX1_init_13 rfl ?_
  refine wa_bipush (x := 20) dX1_init_14 (by decide) ?_
  refine wa_newI (len := 20) dX1_init_16 rfl (by exact Nat.le_of_ble_eq_true rfl) (by omega) (by simp [ab_ric]) (by simp [ab_ric]) ?_
  rw [blk_new]
  refine wa_putF (v := .ref (b + 2)) (ty := .array .int) 12 tyX1 dX1_init_18 fl_X1_17 cl_HO.1 cl_HO.2.1 cl_HO.2.2.1 cl_HO.2.2.2 (by decide) rfl (by simp [ab_ric]) rfl rfl (fun _ => rfl) (fun _ => rfl) (by omega) (blk_at0 (by decide)) (by exact Nat.le_of_ble_eq_true rfl) ?_
  rw [blk_up0 (by decide)]
  refine wa_aload_n dX1_init_21 rfl ?_
  refine wa_bipush (x := 20) dX1_init_22 (by decide) ?_
  refine wa_newI (len := 20) dX1_init_24 rfl (by exact Nat.le_of_ble_eq_true rfl) (by omega) (by simp [ab_ric]) (by simp [ab_ric]) ?_
  rw [blk_new]
  refine wa_putF (v := .ref (b + 3)) (ty := .array .int) 13 tyX1 dX1_init_26 fl_X1_21 cl_HO.1 cl_HO.2.1 cl_HO.2.2.1 cl_HO.2.2.2 (by decide) rfl (by simp [ab_ric]) rfl rfl (fun _ => rfl) (fun _ => rfl) (by omega) (blk_at0 (by decide)) (by exact Nat.le_of_ble_eq_true rfl) ?_
  rw [blk_up0 (by decide)]
  refine wa_aload_n dX1_init_29 rfl ?_
  refine wa_bipush (x := 20) dX1_init_30 (by decide) ?_
  refine wa_newI (len := 20) dX1_init_32 rfl (by exact Nat.le_of_ble_eq_true rfl) (by omega) (by simp [ab_ric]) (by simp [ab_ric]) ?_
  rw [blk_new]
  refine wa_putF (v := .ref (b + 4)) (ty := .array .int) 14 tyX1 dX1_init_34 fl_X1_24 cl_HO.1 cl_HO.2.1 cl_HO.2.2.1 cl_HO.2.2.2 (by decide) rfl (by simp [ab_ric]) rfl rfl (fun _ => rfl) (fun _ => rfl) (by omega) (blk_at0 (by decide)) (by exact Nat.le_of_ble_eq_true rfl) ?_
  rw [blk_up0 (by decide)]
  refine wa_iconst (x := 0) dX1_init_37 (by decide) ?_
  refine wa_istore_n dX1_init_38 rfl ?_
  refine WX_h (blk_cg (m := 5) (E' := hE b 0) (fun o ho => by
    have hh : o = 0 ∨ o = 1 ∨ o = 2 ∨ o = 3 ∨ o = 4 := by omega
    rcases hh with rfl | rfl | rfl | rfl | rfl <;> rfl)) ?_
  refine lp_house hn 6 0 rfl ?_
  refine wa_aload_n dX1_init_67 rfl ?_
  refine c_VG (As := []) dX1_init_68 (ct_empty (b := b) (r := b + 1) (q1 := b + 2) (q2 := b + 3) (q3 := b + 4) (by omega) (blk_at0 (by omega))) lk_X1_28 rfl (blk_at0 (by omega)) rfl (by omega) (fun ro n' h' q _ => ?_) (fun E n' h' q _ => by cases q.1) (by exact Nat.le_of_ble_eq_true rfl) (by unfold ab_fit ab_ric; refine ⟨?_, ?_, ?_, ?_⟩ <;> simp)
  obtain ⟨q1, q2, q3⟩ := q
  rw [q2, q3]
  cases q1
  rw [blk_up0 (by omega)]
  exact wa_return dX1_init_71 ⟨by simp, by simp, rfl, rfl, rfl, by
      refine blk_cg (m := 23) (fun o ho => ?_)
      by_cases h0 : o = 0
      · subst h0
        rfl
      · rw [ab_up_n _ _ h0]
        exact (if_neg h0).symm⟩
def dTO : List Value := [.int 0, .null, .null, .null, .null, .null]
def tF (b : Nat) : Nat → va_E := fun o => if o = 0 then .inr (4, [.int 0, .ref (b + 1), .ref (b + 2), .ref (b + 3), .ref (b + 4), .ref (b + 5)]) else if o < 5 then .inl (0, 501, .inl (fun _ => 0)) else .inl (8, 501, .inr (.inr (.inr (.inr (fun _ => none)))))
theorem ct_tokens {b : Nat} {h : ab_H} (hn : b + 6 < ab_CB) (hbe : h b = .inr (4, dTO)) : AMi yX5_init cX5_init 1 none [] 0 5 2505 [.ref b] (b + 1) h (fun r n' h' => r = .inl none ∧ n' = b + 6 ∧ h' = blk h b 6 (tF b)) := by
  intro has
  change WA RX5 cX5_init 1 [] _ _ 0 0 0 [some (.ref b)] [] (b + 1) _
  refine WX_h (blk_1 hbe) ?_
  refine wa_aload_n dX5_init_0 rfl ?_
  refine wa_objInit dX5_init_1 wl_X5_3 wi_obj wc_obj (by simp [ab_ric]) ?_
  refine wa_aload_n dX5_init_4 rfl ?_
  refine wa_sipush (x := 501) dX5_init_5 (by decide) ?_
  refine wa_newI (len := 501) dX5_init_8 rfl (by exact Nat.le_of_ble_eq_true rfl) (by omega) (by simp [ab_ric]) (by simp [ab_ric]) ?_
  rw [blk_new]
  refine wa_putF (v := .ref (b + 1)) (ty := .array .int) 1 tyX5 dX5_init_10 fl_X5_9 cl_TO.1 cl_TO.2.1 cl_TO.2.2.1 cl_TO.2.2.2 (by decide) rfl (by simp [ab_ric]) rfl rfl (fun _ => rfl) (fun _ => rfl) (by omega) (blk_at0 (by decide)) (by exact Nat.le_of_ble_eq_true rfl) ?_
  rw [blk_up0 (by decide)]
  refine wa_aload_n dX5_init_13 rfl ?_
  refine wa_sipush (x := 501) dX5_init_14 (by decide) ?_
  refine wa_newI (len := 501) dX5_init_17 rfl (by exact Nat.le_of_ble_eq_true rfl) (by omega) (by simp [ab_ric]) (by simp [ab_ric]) ?_
  rw [blk_new]
  refine wa_putF (v := .ref (b + 2)) (ty := .array .int) 2 tyX5 dX5_init_19 fl_X5_15 cl_TO.1 cl_TO.2.1 cl_TO.2.2.1 cl_TO.2.2.2 (by decide) rfl (by simp [ab_ric]) rfl rfl (fun _ => rfl) (fun _ => rfl) (by omega) (blk_at0 (by decide)) (by exact Nat.le_of_ble_eq_true rfl) ?_
  rw [blk_up0 (by decide)]
  refine wa_aload_n dX5_init_22 rfl ?_
  refine wa_sipush (x := 501) dX5_init_23 (by decide) ?_
  refine wa_newI (len := 501) dX5_init_26 rfl (by exact Nat.le_of_ble_eq_true rfl) (by omega) (by simp [ab_ric]) (by simp [ab_ric]) ?_
  rw [blk_new]
  refine wa_putF (v := .ref (b + 3)) (ty := .array .int) 3 tyX5 dX5_init_28 fl_X5_18 cl_TO.1 cl_TO.2.1 cl_TO.2.2.1 cl_TO.2.2.2 (by decide) rfl (by simp [ab_ric]) rfl rfl (fun _ => rfl) (fun _ => rfl) (by omega) (blk_at0 (by decide)) (by exact Nat.le_of_ble_eq_true rfl) ?_
  rw [blk_up0 (by decide)]
  refine wa_aload_n dX5_init_31 rfl ?_
  refine wa_sipush (x := 501) dX5_init_32 (by decide) ?_
  refine wa_newI (len := 501) dX5_init_35 rfl (by exact Nat.le_of_ble_eq_true rfl) (by omega) (by simp [ab_ric]) (by simp [ab_ric]) ?_
  rw [blk_new]
  refine wa_putF (v := .ref (b + 4)) (ty := .array .int) 4 tyX5 dX5_init_37 fl_X5_21 cl_TO.1 cl_TO.2.1 cl_TO.2.2.1 cl_TO.2.2.2 (by decide) rfl (by simp [ab_ric]) rfl rfl (fun _ => rfl) (fun _ => rfl) (by omega) (blk_at0 (by decide)) (by exact Nat.le_of_ble_eq_true rfl) ?_
  rw [blk_up0 (by decide)]
  refine wa_aload_n dX5_init_40 rfl ?_
  refine wa_sipush (x := 501) dX5_init_41 (by decide) ?_
  refine wa_newq (t := 8) (len := 501) (C := RX2) dX5_init_44 wk_X5_24 (by decide +kernel) rfl rfl (by exact Nat.le_of_ble_eq_true rfl) (by omega) (by simp [ab_ric]) (by simp [ab_ric]) ?_
  rw [blk_new]
  refine wa_putF (v := .ref (b + 5)) (ty := .array (.object "ValveRoom$Keyword")) 5 tyX5 dX5_init_47 fl_X5_26 cl_TO.1 cl_TO.2.1 cl_TO.2.2.1 cl_TO.2.2.2 (by decide) rfl (by simp [ab_ric]) rfl rfl (fun _ => rfl) (fun _ => rfl) (by omega) (blk_at0 (by decide)) (by exact Nat.le_of_ble_eq_true rfl) ?_
  rw [blk_up0 (by decide)]
  exact wa_return dX5_init_50 ⟨by simp, by simp, rfl, rfl, rfl, by
      refine blk_cg (m := 6) (fun o ho => ?_)
      have hh : o = 0 ∨ o = 1 ∨ o = 2 ∨ o = 3 ∨ o = 4 ∨ o = 5 := by omega
      rcases hh with rfl | rfl | rfl | rfl | rfl | rfl <;> rfl⟩
def dSB : List Value := [.null, .int 0, .int 0, .int 0]
def sF (b : Nat) : Nat → va_E := fun o => if o = 0 then .inr (7, [.ref (b + 1), .int 0, .int 0, .int 0]) else .inl (1, 16, .inl (fun _ => 0))
theorem ct_sb0 {b : Nat} {h : ab_H} (hn : b + 2 < ab_CB) (hbe : h b = .inr (7, dSB)) : AMi yJ5_init_d00df cJ5_init_d00df 2 none [] 0 1 16 [.ref b, .int 16] (b + 1) h (fun r n' h' => r = .inl none ∧ n' = b + 2 ∧ h' = blk h b 2 (sF b)) := by
  intro has
  change WA RJ5 cJ5_init_d00df 2 [] _ _ 0 0 0 [some (.ref b), some (.int 16)] [] (b + 1) _
  refine WX_h (blk_1 hbe) ?_
  refine wa_aload_n dJ5_init_d00df_0 rfl ?_
  refine wa_objInit dJ5_init_d00df_1 wl_J5_3 wi_obj wc_obj (by simp [ab_ric]) ?_
  refine wa_gets dJ5_init_d00df_4 (v := .int 1) List.mem_cons_self fl_J5_18 trivial ?_
  refine wa_if_eq 25 dJ5_init_d00df_7 rfl (fun z => absurd z (by decide)) (fun _ => ?_)
  refine wa_aload_n dJ5_init_d00df_10 rfl ?_
  refine wa_iload_n dJ5_init_d00df_11 rfl ?_
  refine wa_newB (len := 16) dJ5_init_d00df_12 rfl (by exact Nat.le_of_ble_eq_true rfl) (by omega) (by simp [ab_ric]) (by simp [ab_ric]) ?_
  rw [blk_new]
  refine wa_putf (v := .ref (b + 1)) (ty := .array .byte) 0 tyJ4 dJ5_init_d00df_14 fl_J5_15 cl_SB.1 cl_SB.2.1 cl_SB.2.2.1 cl_SB.2.2.2 (by decide) rfl rfl (fun _ => rfl) (fun _ => rfl) (by omega) (blk_at0 (by decide)) (by exact Nat.le_of_ble_eq_true rfl) ?_
  rw [blk_up0 (by decide)]
  refine wa_aload_n dJ5_init_d00df_17 rfl ?_
  refine wa_iconst (x := 0) dJ5_init_d00df_18 (by decide) ?_
  refine wa_putf (v := .int 0) (ty := .byte) 1 tyJ4 dJ5_init_d00df_19 fl_J5_22 cl_SB.1 cl_SB.2.1 cl_SB.2.2.1 cl_SB.2.2.2 (by decide) rfl rfl (fun _ => rfl) (fun _ => rfl) (by omega) (blk_at0 (by decide)) (by exact Nat.le_of_ble_eq_true rfl) ?_
  rw [blk_up0 (by decide)]
  refine wa_goto 38 dJ5_init_d00df_22 rfl ?_
  exact wa_return dJ5_init_d00df_38 ⟨by simp, by simp, rfl, rfl, rfl, by
      refine blk_cg (m := 2) (fun o ho => ?_)
      have hh : o = 0 ∨ o = 1 := by omega
      rcases hh with rfl | rfl <;> rfl⟩
theorem ct_sb {b : Nat} {h : ab_H} (hn : b + 2 < ab_CB) (hbe : h b = .inr (7, dSB)) : AMi yJ4_init_da8c8 cJ4_init_da8c8 1 none [] 1 1 16 [.ref b] (b + 1) h (fun r n' h' => r = .inl none ∧ n' = b + 2 ∧ h' = blk h b 2 (sF b)) := by
  intro has
  change WA RJ4 cJ4_init_da8c8 1 [] _ _ 0 0 0 [some (.ref b)] [] (b + 1) _
  refine wa_aload_n dJ4_init_da8c8_0 rfl ?_
  refine wa_bipush (x := 16) dJ4_init_da8c8_1 (by decide) ?_
  refine wa_callIc (As := [.int 16]) dJ4_init_da8c8_3 lk_J4_1 (ct_sb0 hn hbe) (fun E n' h' q => by cases q.1) rfl rfl (by exact Nat.le_of_ble_eq_true rfl) (by unfold ab_fitc ab_ric; refine ⟨?_, ?_, ?_, ?_⟩ <;> simp) (by exact Nat.le_of_ble_eq_true rfl) (fun ro n' h' q _ => ?_)
  obtain ⟨q1, q2, q3⟩ := q
  rw [q2, q3]
  cases q1
  exact wa_return dJ4_init_da8c8_6 ⟨by simp, by simp, rfl, rfl, rfl, rfl⟩
def dPA : List Value := [.null, .int 0, .null, .int 0, .int 0, .null, .int 0, .int 0, .int 0]
def pF (b : Nat) : Nat → va_E := fun o => if o = 0 then .inr (1, [.ref (b + 1), .int 0, .ref (b + 2), .int 0, .int 0, .ref (b + 25), .int 0, .int 0, .int 0]) else if o = 1 then .inl (1, 500, .inl (fun _ => 0)) else if o < 25 then hF (b + 2) (o - 2) else tF (b + 25) (o - 25)
theorem ct_parser {b : Nat} {h : ab_H} (hn : b + 31 < ab_CB) (hbe : h b = .inr (1, dPA)) : AMi yX3_init cX3_init 1 none [] 2 30 3506 [.ref b] (b + 1) h (fun r n' h' => r = .inl none ∧ n' = b + 31 ∧ h' = blk h b 31 (pF b)) := by
  intro has
  change WA RX3 cX3_init 1 [] _ _ 0 0 0 [some (.ref b)] [] (b + 1) _
  refine WX_h (blk_1 hbe) ?_
  refine wa_aload_n dX3_init_0 rfl ?_
  refine wa_objInit dX3_init_1 wl_X3_3 wi_obj wc_obj (by simp [ab_ric]) ?_
  refine wa_aload_n dX3_init_4 rfl ?_
  refine wa_sipush (x := 500) dX3_init_5 (by decide) ?_
  refine wa_newB (len := 500) dX3_init_8 rfl (by exact Nat.le_of_ble_eq_true rfl) (by omega) (by simp [ab_ric]) (by simp [ab_ric]) ?_
  rw [blk_new]
  refine wa_putF (v := .ref (b + 1)) (ty := .array .byte) 0 tyX3 dX3_init_10 fl_X3_9 cl_PA.1 cl_PA.2.1 cl_PA.2.2.1 cl_PA.2.2.2 (by decide) rfl (by simp [ab_ric]) rfl rfl (fun _ => rfl) (fun _ => rfl) (by omega) (blk_at0 (by decide)) (by exact Nat.le_of_ble_eq_true rfl) ?_
  rw [blk_up0 (by decide)]
  refine wa_aload_n dX3_init_13 rfl ?_
  refine wa_new (fs := dHO) tyX1 dX3_init_14 wk_X3_15 wi_X1 wz_X1 cl_HO.1 cl_HO.2.1 cl_HO.2.2.1 (by decide) (fun _ => rfl) (wf_d rfl) (by omega) (by simp [ab_ric]) (by simp [ab_ric]) ?_
  refine wa_dup dX3_init_17 rfl ?_
  refine wa_callIc (As := []) dX3_init_18 lk_X3_17 (ct_house (b := b + 2) (by omega) (ab_up_s _ _ _)) (fun E n' h' q => by cases q.1) rfl rfl (by exact Nat.le_of_ble_eq_true rfl) (by unfold ab_fitc ab_ric; refine ⟨?_, ?_, ?_, ?_⟩ <;> simp) (by exact Nat.le_of_ble_eq_true rfl) (fun ro n' h' q _ => ?_)
  obtain ⟨q1, q2, q3⟩ := q
  rw [q2, q3]
  cases q1
  rw [blk_call (by decide), Nat.add_assoc b]
  refine wa_putF (v := .ref (b + 2)) (ty := .object "ValveRoom$House") 2 tyX3 dX3_init_21 fl_X3_18 cl_PA.1 cl_PA.2.1 cl_PA.2.2.1 cl_PA.2.2.2 (by decide) rfl (by simp [ab_ric]) rfl rfl (fun _ => rfl) (fun _ => rfl) (by omega) (blk_at0 (by decide)) (by exact Nat.le_of_ble_eq_true rfl) ?_
  rw [blk_up0 (by decide)]
  refine wa_aload_n dX3_init_24 rfl ?_
  refine wa_new (fs := dTO) tyX5 dX3_init_25 wk_X3_22 wi_X5 wz_X5 cl_TO.1 cl_TO.2.1 cl_TO.2.2.1 (by decide) (fun _ => rfl) (wf_d rfl) (by omega) (by simp [ab_ric]) (by simp [ab_ric]) ?_
  refine wa_dup dX3_init_28 rfl ?_
  refine wa_callINc (As := []) dX3_init_29 lk_X3_24 (ct_tokens (b := b + 25) (by omega) (ab_up_s _ _ _)) (fun E n' h' q => by cases q.1) rfl rfl (by exact Nat.le_of_ble_eq_true rfl) (by unfold ab_fitc ab_ric; refine ⟨?_, ?_, ?_, ?_⟩ <;> simp) (by exact Nat.le_of_ble_eq_true rfl) (fun ro n' h' q _ => ?_)
  obtain ⟨q1, q2, q3⟩ := q
  rw [q2, q3]
  cases q1
  rw [blk_call (by decide), Nat.add_assoc b]
  refine wa_putF (v := .ref (b + 25)) (ty := .object "ValveRoom$Tokens") 5 tyX3 dX3_init_32 fl_X3_25 cl_PA.1 cl_PA.2.1 cl_PA.2.2.1 cl_PA.2.2.2 (by decide) rfl (by simp [ab_ric]) rfl rfl (fun _ => rfl) (fun _ => rfl) (by omega) (blk_at0 (by decide)) (by exact Nat.le_of_ble_eq_true rfl) ?_
  rw [blk_up0 (by decide)]
  exact wa_return dX3_init_35 ⟨by simp, by simp, rfl, rfl, rfl, by
      refine blk_cg (m := 31) (fun o ho => ?_)
      by_cases h0 : o = 0
      · subst h0
        rfl
      · rw [ab_up_n _ _ h0]
        by_cases h1 : o < 25
        · rw [jn_l h1, ab_up_n _ _ h0]
          by_cases h2 : o < 2
          · obtain rfl : o = 1 := by omega
            rfl
          · rw [jn_r (by omega)]
            unfold pF
            rw [if_neg h0, if_neg (by omega), if_pos h1]
        · rw [jn_r (by omega)]
          unfold pF
          rw [if_neg h0, if_neg (by omega), if_neg h1]⟩

