/-! ValveRoom$House: empty; ValveRoom$Room: startAs. Written by program (wip/whole/gen/m770.py) but for the heads. -/
/-- cell a has taken its first m numbers, but for the tenth, from v, since S0 -/
def PUTS (S0 S : SS) (a m : Nat) (v : Nat → Int32) : Prop := S.2 = S0.2 ∧ (∀ k, ¬ k = a → S.1 k = S0.1 k) ∧ ∀ j, j < m → ¬ j = 10 → S.1 a j = v j
theorem PUTS.put {S0 S : SS} {a m : Nat} {v : Nat → Int32} {x : Int32} (h : PUTS S0 S a m v) (hx : v m = x) : PUTS S0 (ss S a m x) a (m + 1) v := by
  obtain ⟨h2, h3, h4⟩ := h
  refine ⟨h2, fun k hk => (if_neg hk).trans (h3 k hk), fun j j1 j2 => ?_⟩
  rw [ss_1]
  by_cases hj : j = m
  · rw [if_pos ⟨rfl, hj⟩, hj, hx]
  · rw [if_neg (fun z => hj z.2)]; exact h4 j (by omega) j2
theorem PUTS.skip {S0 S : SS} {a : Nat} {v : Nat → Int32} (h : PUTS S0 S a 10 v) : PUTS S0 S a 11 v := ⟨h.1, h.2.1, fun j j1 j2 => h.2.2 j (by omega) j2⟩
/-- the numbers of a House that nothing has been told of -/
def emp (j : Nat) : Int32 := match j with
  | 1 => 50
  | 2 => 8
  | 3 => 3
  | 4 => 30
  | 5 => 3
  | 6 => 5
  | 7 => 20
  | 8 => 100
  | _ => 0
theorem hh_empty {n a : Nat} {S : SS} (hn : 269 ≤ n) (ha : isH a) : AM yX1_empty cX1_empty 1 none [] 0 0 0 [.ref a] n (Hp S) (PVe n (fun S' => PUTS S S' a 12 emp)) := by
  intro has
  change WA RX1 cX1_empty 1 [] _ _ 0 0 0 [some (.ref a)] [] n _
  have h0 : PUTS S S a 0 emp := ⟨rfl, fun _ _ => rfl, fun j hj => absurd hj (Nat.not_lt_zero _)⟩
  refine wa_aload_n dX1_empty_0 rfl ?_
  refine wa_iconst (x := 0) dX1_empty_1 (by decide) ?_
  refine p_HO ha hn 0 dX1_empty_2 fl_X1_31 (by decide) rfl rfl rfl rfl (fun _ _ _ => rfl) (Nat.le_of_ble_eq_true rfl) ?_
  have h1 := h0.put (m := 0) (v := emp) rfl
  refine wa_aload_n dX1_empty_5 rfl ?_
  refine wa_bipush (x := 50) dX1_empty_6 (by decide) ?_
  refine p_HO ha hn 1 dX1_empty_8 fl_X1_35 (by decide) rfl rfl rfl rfl (fun _ _ _ => rfl) (Nat.le_of_ble_eq_true rfl) ?_
  have h2 := h1.put (m := 1) (v := emp) rfl
  refine wa_aload_n dX1_empty_11 rfl ?_
  refine wa_bipush (x := 8) dX1_empty_12 (by decide) ?_
  refine p_HO ha hn 2 dX1_empty_14 fl_X1_38 (by decide) rfl rfl rfl rfl (fun _ _ _ => rfl) (Nat.le_of_ble_eq_true rfl) ?_
  have h3 := h2.put (m := 2) (v := emp) rfl
  refine wa_aload_n dX1_empty_17 rfl ?_
  refine wa_iconst (x := 3) dX1_empty_18 (by decide) ?_
  refine p_HO ha hn 3 dX1_empty_19 fl_X1_41 (by decide) rfl rfl rfl rfl (fun _ _ _ => rfl) (Nat.le_of_ble_eq_true rfl) ?_
  have h4 := h3.put (m := 3) (v := emp) rfl
  refine wa_aload_n dX1_empty_22 rfl ?_
  refine wa_bipush (x := 30) dX1_empty_23 (by decide) ?_
  refine p_HO ha hn 4 dX1_empty_25 fl_X1_44 (by decide) rfl rfl rfl rfl (fun _ _ _ => rfl) (Nat.le_of_ble_eq_true rfl) ?_
  have h5 := h4.put (m := 4) (v := emp) rfl
  refine wa_aload_n dX1_empty_28 rfl ?_
  refine wa_iconst (x := 3) dX1_empty_29 (by decide) ?_
  refine p_HO ha hn 5 dX1_empty_30 fl_X1_47 (by decide) rfl rfl rfl rfl (fun _ _ _ => rfl) (Nat.le_of_ble_eq_true rfl) ?_
  have h6 := h5.put (m := 5) (v := emp) rfl
  refine wa_aload_n dX1_empty_33 rfl ?_
  refine wa_iconst (x := 5) dX1_empty_34 (by decide) ?_
  refine p_HO ha hn 6 dX1_empty_35 fl_X1_50 (by decide) rfl rfl rfl rfl (fun _ _ _ => rfl) (Nat.le_of_ble_eq_true rfl) ?_
  have h7 := h6.put (m := 6) (v := emp) rfl
  refine wa_aload_n dX1_empty_38 rfl ?_
  refine wa_bipush (x := 20) dX1_empty_39 (by decide) ?_
  refine p_HO ha hn 7 dX1_empty_41 fl_X1_53 (by decide) rfl rfl rfl rfl (fun _ _ _ => rfl) (Nat.le_of_ble_eq_true rfl) ?_
  have h8 := h7.put (m := 7) (v := emp) rfl
  refine wa_aload_n dX1_empty_44 rfl ?_
  refine wa_bipush (x := 100) dX1_empty_45 (by decide) ?_
  refine p_HO ha hn 8 dX1_empty_47 fl_X1_56 (by decide) rfl rfl rfl rfl (fun _ _ _ => rfl) (Nat.le_of_ble_eq_true rfl) ?_
  have h9 := h8.put (m := 8) (v := emp) rfl
  refine wa_aload_n dX1_empty_50 rfl ?_
  refine wa_iconst (x := 0) dX1_empty_51 (by decide) ?_
  refine p_HO ha hn 9 dX1_empty_52 fl_X1_59 (by decide) rfl rfl rfl rfl (fun _ _ _ => rfl) (Nat.le_of_ble_eq_true rfl) ?_
  have h10 := h9.put (m := 9) (v := emp) rfl
  have h11 := h10.skip
  refine wa_aload_n dX1_empty_55 rfl ?_
  refine wa_iconst (x := 0) dX1_empty_56 (by decide) ?_
  refine p_HO ha hn 11 dX1_empty_57 fl_X1_62 (by decide) rfl rfl rfl rfl (fun _ _ _ => rfl) (Nat.le_of_ble_eq_true rfl) ?_
  have h12 := h11.put (m := 11) (v := emp) rfl
  exact wa_return dX1_empty_60 ⟨Nat.le_refl _, Nat.le_refl _, rfl, rfl, rfl, _, rfl, h12⟩

