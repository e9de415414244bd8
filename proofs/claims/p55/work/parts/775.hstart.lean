/-! ValveRoom$Room: startAs. Written by program (wip/whole/gen/m775.py) but for the heads. -/
/-- room r's first k counts are nothing, all else is as in S0 -/
def ZC (S0 S : SS) (r k : Nat) : Prop := S.2 = S0.2 ∧ (∀ x, ¬ x = r + 1 → S.1 x = S0.1 x) ∧ ∀ c, c < k → S.1 (r + 1) c = 0
theorem ZC.put {S0 S : SS} {r k : Nat} (h : ZC S0 S r k) : ZC S0 (ss S (r + 1) k 0) r (k + 1) := by
  obtain ⟨h2, h3, h4⟩ := h
  refine ⟨h2, fun x hx => (if_neg hx).trans (h3 x hx), fun j j1 => ?_⟩
  rw [ss_1]
  by_cases hj : j = k
  · rw [if_pos ⟨rfl, hj⟩]
  · rw [if_neg (fun z => hj z.2)]; exact h4 j (by omega)
/-- what startAs leaves -/
def NEWR (S S' : SS) (r w : Nat) : Prop := S'.2.2 = S.2.2 ∧ S'.2.1 r = w ∧ (∀ k, ¬ k = r → S'.2.1 k = S.2.1 k) ∧ (∀ k, ¬ k = r → ¬ k = r + 1 → S'.1 k = S.1 k) ∧ (∀ j, 1 ≤ j → j < 6 → S'.1 r j = S.1 r j) ∧ S'.1 r 6 = 0 ∧ S'.1 r 7 = 1 ∧ (∀ j, 8 ≤ j → j < 12 → S'.1 r j = 0) ∧ S'.1 r 14 = 0 ∧ ∀ c, c < 6 → S'.1 (r + 1) c = 0
theorem lp_startAs {Q : ab_Q} {n q w : Nat} {S0 : SS} (hn : 269 ≤ n) (hq : isR q) :
    ∀ (r k : Nat), k + r = 6 → ∀ (S1 : SS), ZC S0 S1 q k → (∀ S', ZC S0 S' q 6 → Q (.inl none) 0 0 n (Hp S')) → WA RX4 cX4_startAs 3 [] (ab_rm 0 0 0) Q 0 0 42 [some (.ref q), some (.ref w), some (.int (nI (k)))] [] n (Hp S1) := by
  intro r
  induction r with
  | zero =>
    intro k hk
    have hk' : 6 = k := by omega
    
    intro S1 hS hQ
    have hk2 : 6 = k := hk'
    refine wa_iload_n dX4_startAs_42 rfl ?_
    refine wa_aload_n dX4_startAs_43 rfl ?_
    refine g_RO hq hn 12 dX4_startAs_44 fl_X4_17 (by decide) (v := .ref (q + 1)) rfl ?_
    refine wa_alen dX4_startAs_47 (by decide) (Or.inl (lt_R1 hq hn)) (hq.cnt _ _ _) rfl ?_
    rw [show Int32.ofNat 6 = nI 6 from rfl]
    refine wa_icmp_ge 64 dX4_startAs_48 rfl (fun c48 => ?_) (fun c48 => absurd (by rw [← hk2]; exact Int32.le_refl _) c48)
    exact wa_return dX4_startAs_64 (hQ S1 (by rw [hk2]; exact hS))
  | succ r ih =>
    intro k hk
    intro S1 hS hQ
    refine wa_iload_n dX4_startAs_42 rfl ?_
    refine wa_aload_n dX4_startAs_43 rfl ?_
    refine g_RO hq hn 12 dX4_startAs_44 fl_X4_17 (by decide) (v := .ref (q + 1)) rfl ?_
    refine wa_alen dX4_startAs_47 (by decide) (Or.inl (lt_R1 hq hn)) (hq.cnt _ _ _) rfl ?_
    rw [show Int32.ofNat 6 = nI 6 from rfl]
    refine wa_icmp_ge 64 dX4_startAs_48 rfl (fun c48 => absurd c48 (Int32.not_le.mpr (nI_lt (by omega) (by omega)))) (fun c48 => ?_)
    refine wa_aload_n dX4_startAs_51 rfl ?_
    refine g_RO hq hn 12 dX4_startAs_52 fl_X4_17 (by decide) (v := .ref (q + 1)) rfl ?_
    refine wa_iload_n dX4_startAs_55 rfl ?_
    refine wa_iconst (x := 0) dX4_startAs_56 (by decide) ?_
    refine s_iast (j := k) hq.cnt dX4_startAs_57 (lt_R1 hq hn) (ix_nI (by omega)) (by omega) ?_
    refine wa_iinc (y := 1) dX4_startAs_58 rfl (by decide) rfl ?_
    refine wa_goto 42 dX4_startAs_61 rfl ?_
    rw [nI_1 k]
    exact ih (k + 1) (by omega) _ hS.put hQ
theorem hh_startAs {n q w : Nat} {S : SS} (hn : 269 ≤ n) (hq : isR q) : AM yX4_startAs cX4_startAs 3 none [] 0 0 0 [.ref q, .ref w] n (Hp S) (PVe n (fun S' => NEWR S S' q w)) := by
  intro has
  change WA RX4 cX4_startAs 3 [] _ _ 0 0 0 [some (.ref q), some (.ref w), none] [] n _
  refine wa_aload_n dX4_startAs_0 rfl ?_
  refine wa_aload_n dX4_startAs_1 rfl ?_
  refine p_name hq hn dX4_startAs_2 fl_X4_11 ?_
  refine wa_aload_n dX4_startAs_5 rfl ?_
  refine wa_iconst (x := 0) dX4_startAs_6 (by decide) ?_
  refine p_RO (by assumption) (by assumption) 6 dX4_startAs_7 fl_X4_40 (by decide) rfl rfl rfl rfl (fun _ _ _ => rfl) (Nat.le_of_ble_eq_true rfl) ?_
  refine wa_aload_n dX4_startAs_10 rfl ?_
  refine wa_iconst (x := 1) dX4_startAs_11 (by decide) ?_
  refine p_RO (by assumption) (by assumption) 7 dX4_startAs_12 fl_X4_44 (by decide) rfl rfl rfl rfl (fun _ _ _ => rfl) (Nat.le_of_ble_eq_true rfl) ?_
  refine wa_aload_n dX4_startAs_15 rfl ?_
  refine wa_iconst (x := 0) dX4_startAs_16 (by decide) ?_
  refine p_RO (by assumption) (by assumption) 8 dX4_startAs_17 fl_X4_47 (by decide) rfl rfl rfl rfl (fun _ _ _ => rfl) (Nat.le_of_ble_eq_true rfl) ?_
  refine wa_aload_n dX4_startAs_20 rfl ?_
  refine wa_iconst (x := 0) dX4_startAs_21 (by decide) ?_
  refine p_RO (by assumption) (by assumption) 9 dX4_startAs_22 fl_X4_50 (by decide) rfl rfl rfl rfl (fun _ _ _ => rfl) (Nat.le_of_ble_eq_true rfl) ?_
  refine wa_aload_n dX4_startAs_25 rfl ?_
  refine wa_iconst (x := 0) dX4_startAs_26 (by decide) ?_
  refine p_RO (by assumption) (by assumption) 10 dX4_startAs_27 fl_X4_53 (by decide) rfl rfl rfl rfl (fun _ _ _ => rfl) (Nat.le_of_ble_eq_true rfl) ?_
  refine wa_aload_n dX4_startAs_30 rfl ?_
  refine wa_iconst (x := 0) dX4_startAs_31 (by decide) ?_
  refine p_RO (by assumption) (by assumption) 11 dX4_startAs_32 fl_X4_56 (by decide) rfl rfl rfl rfl (fun _ _ _ => rfl) (Nat.le_of_ble_eq_true rfl) ?_
  refine wa_aload_n dX4_startAs_35 rfl ?_
  refine wa_iconst (x := 0) dX4_startAs_36 (by decide) ?_
  refine p_RO (by assumption) (by assumption) 14 dX4_startAs_37 fl_X4_65 (by decide) rfl rfl rfl rfl (fun _ _ _ => rfl) (Nat.le_of_ble_eq_true rfl) ?_
  refine wa_iconst (x := 0) dX4_startAs_40 (by decide) ?_
  refine wa_istore_n dX4_startAs_41 rfl ?_
  refine lp_startAs hn hq 6 0 (Nat.zero_add _) _ ⟨rfl, fun _ _ => rfl, fun c hc => absurd hc (Nat.not_lt_zero _)⟩ (fun S' h' => ⟨Nat.le_refl _, Nat.le_refl _, rfl, rfl, rfl, S', rfl, ?_⟩)
  obtain ⟨h2, h3, h4⟩ := h'
  have e := h3 q (by omega)
  refine ⟨congrArg (fun z => z.2) h2, (congrFun (congrArg (fun z => z.1) h2) q).trans (if_pos rfl), fun k hk => (congrFun (congrArg (fun z => z.1) h2) k).trans (if_neg hk), fun k k1 k2 => (h3 k k2).trans ?_, fun j j1 j2 => (congrFun e j).trans ?_, (congrFun e 6).trans ?_, (congrFun e 7).trans ?_, fun j j1 j2 => (congrFun e j).trans ?_, (congrFun e 14).trans ?_, h4⟩
  · exact (if_neg k1).trans ((if_neg k1).trans ((if_neg k1).trans ((if_neg k1).trans ((if_neg k1).trans ((if_neg k1).trans ((if_neg k1).trans (rfl)))))))
  · rw [ss_1, if_neg (by omega), ss_1, if_neg (by omega), ss_1, if_neg (by omega), ss_1, if_neg (by omega), ss_1, if_neg (by omega), ss_1, if_neg (by omega), ss_1, if_neg (by omega)]
    rfl
  · rw [ss_1, if_neg (by omega), ss_1, if_neg (by omega), ss_1, if_neg (by omega), ss_1, if_neg (by omega), ss_1, if_neg (by omega), ss_1, if_neg (by omega), ss_1, if_pos ⟨rfl, rfl⟩]
  · rw [ss_1, if_neg (by omega), ss_1, if_neg (by omega), ss_1, if_neg (by omega), ss_1, if_neg (by omega), ss_1, if_neg (by omega), ss_1, if_pos ⟨rfl, rfl⟩]
  · have : j = 8 ∨ j = 9 ∨ j = 10 ∨ j = 11 := by omega
    rcases this with rfl | rfl | rfl | rfl <;> simp [ss_1]
  · rw [ss_1, if_pos ⟨rfl, rfl⟩]

