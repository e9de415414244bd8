/-! ValveRoom: load. Written by program (wip/whole/gen/m828.py) but for the heads. -/
/-- what a load leaves as it was -/
def FRv (n : Nat) (S0 S : SS) : Prop := (S.2.2.1 = S0.2.2.1 ∧ S.2.2.2.1 = S0.2.2.2.1 ∧ sbr S = sbr S0 ∧ S.2.2.2.2.2.2.2 = S0.2.2.2.2.2.2.2 ∧ ∀ k, k < n → ltc S k = ltc S0 k) ∧ (∀ a, (a = 2 ∨ 31 ≤ a) → S.1 a = S0.1 a) ∧ (∀ a, (a < 3 ∨ 26 ≤ a) → S.2.1 a = S0.2.1 a) ∧ (∀ j, (j = 0 ∨ j = 2 ∨ j = 5 ∨ 8 < j) → S.1 1 j = S0.1 1 j) ∧ ∀ j, ¬ j = 1 → ¬ j = 2 → S.1 0 j = S0.1 0 j
theorem FRl.v {n : Nat} {S0 S : SS} (h : FRl n S0 S) (x y : Int32) : FRv n S0 (ss (ss (ss S 1 1 0) 0 1 x) 0 2 y) :=
  ⟨h.1, fun a ha => by rw [ss_o _ _ _ (by omega), ss_o _ _ _ (by omega), ss_o _ _ _ (by omega)]; exact h.2.1 a (by omega) (by omega), fun a ha => h.2.2.1 a ha, fun j hj => by rw [ss_o _ _ _ (by decide), ss_o _ _ _ (by decide), ss_j _ _ (by omega)]; exact h.2.2.2 j (by omega), fun j h1 h2 => by rw [ss_j _ _ h2, ss_j _ _ h1, ss_o _ _ _ (by decide)]; exact congrFun (h.2.1 0 (by decide) (by decide)) j⟩
/-- what a load leaves -/
def LDV (n : Nat) (S0 : SS) (b : Nat → Int32) (N : Nat) (g : Nat → Int32) (c : Nat) (v : Int32) (n' : Nat) (S' : SS) : Prop := match pLoad b N with
  | .inl e => v = -4 ∧ S'.1 0 1 = nI e.1 ∧ S'.1 0 2 = nI e.2 ∧ S'.1 1 1 = 0 ∧ FRv n S0 S'
  | .inr s => v = s.2.1 0 ∧ GG 0 s.2.1 ∧ ∃ S1 S2 nf' nl', FRv n S0 S1 ∧ (S1.1 0 1 = 0 ∧ S1.1 0 2 = -1 ∧ S1.1 1 1 = 0) ∧ REM S1 S2 g c ∧ FRc 34 S2 S' ∧ HH S' 34 s.2.1 (fun _ => True) ∧ NMR s.2.1 nf' nl' ∧ NMX n' S' 34 (rn s.2.1) nf' nl'
theorem LDV.l {n : Nat} {S0 : SS} {b : Nat → Int32} {N : Nat} {g : Nat → Int32} {c : Nat} {v : Int32} {n' : Nat} {S' : SS} {e : Nat × Nat} (hx : pLoad b N = .inl e) (h : v = -4 ∧ S'.1 0 1 = nI e.1 ∧ S'.1 0 2 = nI e.2 ∧ S'.1 1 1 = 0 ∧ FRv n S0 S') : LDV n S0 b N g c v n' S' := by
  unfold LDV
  rw [hx]
  exact h
theorem LDV.r {n : Nat} {S0 : SS} {b : Nat → Int32} {N : Nat} {g : Nat → Int32} {c : Nat} {v : Int32} {n' : Nat} {S' : SS} {s : PST} (hx : pLoad b N = .inr s) (h : v = s.2.1 0 ∧ GG 0 s.2.1 ∧ ∃ S1 S2 nf' nl', FRv n S0 S1 ∧ (S1.1 0 1 = 0 ∧ S1.1 0 2 = -1 ∧ S1.1 1 1 = 0) ∧ REM S1 S2 g c ∧ FRc 34 S2 S' ∧ HH S' 34 s.2.1 (fun _ => True) ∧ NMR s.2.1 nf' nl' ∧ NMX n' S' 34 (rn s.2.1) nf' nl') : LDV n S0 b N g c v n' S' := by
  unfold LDV
  rw [hx]
  exact h
theorem vr_load {b : Nat → Int32} {N n c : Nat} {S : SS} {g : Nat → Int32} {T : Int} (hn : 269 ≤ n) (hW : WHT) (hnb : n + 19 ≤ ab_CB) (hsb : sbr S < n) (hN : N ≤ 500) (eb : S.1 2 = b) (h1 : S.1 1 1 = nI N) (h : HH S 34 g (fun _ => True)) (hg : GG T g) (hP : PPf S.2.2.1) (hc : c ≤ 6) (h7 : S.1 0 7 = nI c) : AM yX6_load cX6_load 2 (some .int) [] 10 18 96 [.ref 0] n (Hp S) (PMe n 18 (LDV n S b N g c)) := by
  intro has
  change WA RX6 cX6_load 2 [] _ _ 0 0 0 [some (.ref 0), none] [] n _
  refine wa_aload_n dX6_load_0 rfl ?_
  refine g_VR (by assumption) 0 dX6_load_1 fl_X6_10 (by decide) rfl ?_
  refine c_VMI dX6_load_4 (px_parse hn hW hnb hsb hN eb h1) lk_X6_66 rfl (isO_PA _ _ _) rfl (ltS hn) (fun w1 n1 S1 l1 u1 r1 => ?_)
  obtain ⟨cc1, r1⟩ := r1
  have hn1 : 269 ≤ n1 := by omega
  cases hx : pLoad b N with
  | inl e =>
    obtain ⟨f1, rfl, ⟨q1, q2⟩⟩ := RBl.l hx r1
    refine wa_istore_n dX6_load_7 rfl ?_
    refine wa_aload_n dX6_load_8 rfl ?_
    refine g_VR (by assumption) 0 dX6_load_9 fl_X6_10 (by decide) rfl ?_
    refine wa_iconst (x := 0) dX6_load_12 (by decide) ?_
    refine p_PA (by assumption) 1 dX6_load_13 fl_X6_48 (by decide) rfl rfl rfl rfl (fun _ _ _ => rfl) (Nat.le_of_ble_eq_true rfl) ?_
    refine wa_aload_n dX6_load_16 rfl ?_
    refine wa_aload_n dX6_load_17 rfl ?_
    refine g_VR (by assumption) 0 dX6_load_18 fl_X6_10 (by decide) rfl ?_
    refine g_PA (by assumption) 3 dX6_load_21 fl_X6_70 (by decide) rfl ?_
    refine p_VR (by assumption) 1 dX6_load_24 fl_X6_73 (by decide) rfl rfl rfl rfl (fun _ _ _ => rfl) (Nat.le_of_ble_eq_true rfl) ?_
    refine wa_aload_n dX6_load_27 rfl ?_
    refine wa_aload_n dX6_load_28 rfl ?_
    refine g_VR (by assumption) 0 dX6_load_29 fl_X6_10 (by decide) rfl ?_
    refine g_PA (by assumption) 4 dX6_load_32 fl_X6_76 (by decide) rfl ?_
    refine p_VR (by assumption) 2 dX6_load_35 fl_X6_44 (by decide) rfl rfl rfl rfl (fun _ _ _ => rfl) (Nat.le_of_ble_eq_true rfl) ?_
    refine wa_iload_n dX6_load_38 rfl ?_
    refine wa_if_ne 45 dX6_load_39 rfl (fun c39 => absurd rfl c39) (fun c39 => ?_)
    refine wa_bipush (x := (-4)) dX6_load_42 (by decide) ?_
    exact wa_ireturn dX6_load_44 ⟨by decide, by decide, ⟨_, rfl, rfl⟩, _, _, rfl, rfl, l1, u1, LDV.l hx ⟨rfl, (ss_j _ _ (by decide)).trans ((ss_e _ _ _ _).trans q1), (ss_e _ _ _ _).trans q2, by rw [ss_o _ _ _ (by decide), ss_o _ _ _ (by decide), ss_e], f1.v _ _⟩⟩
  | inr s =>
    obtain ⟨z1, δ, z2⟩ := s
    obtain ⟨f1, rfl, t', nf', nl', k1⟩ := RBl.r hx r1
    dsimp only at k1
    have hv := f1.v ((ss S1 1 1 0).1 1 3) ((ss (ss S1 1 1 0) 0 1 ((ss S1 1 1 0).1 1 3)).1 1 4)
    have h3 : HH (ss (ss (ss S1 1 1 0) 0 1 ((ss S1 1 1 0).1 1 3)) 0 2 ((ss (ss S1 1 1 0) 0 1 ((ss S1 1 1 0).1 1 3)).1 1 4)) 34 g (fun _ => True) := h.of (fun k a1 a2 => hv.2.1 k (by omega))
    have hP3 : PPf (ss (ss (ss S1 1 1 0) 0 1 ((ss S1 1 1 0).1 1 3)) 0 2 ((ss (ss S1 1 1 0) 0 1 ((ss S1 1 1 0).1 1 3)).1 1 4)).2.2.1 := by rw [hv.1.1]; exact hP
    have h73 : (ss (ss (ss S1 1 1 0) 0 1 ((ss S1 1 1 0).1 1 3)) 0 2 ((ss (ss S1 1 1 0) 0 1 ((ss S1 1 1 0).1 1 3)).1 1 4)).1 0 7 = nI c := (hv.2.2.2.2 7 (by decide) (by decide)).trans h7
    have hd3 : HH (ss (ss (ss S1 1 1 0) 0 1 ((ss S1 1 1 0).1 1 3)) 0 2 ((ss (ss S1 1 1 0) 0 1 ((ss S1 1 1 0).1 1 3)).1 1 4)) 3 δ (fun _ => True) := k1.hh.of (fun k a1 a2 => by rw [ss_o _ _ _ (by omega), ss_o _ _ _ (by omega), ss_o _ _ _ (by omega)])
    have hlo := (hP3.pfP c).lo (c5_lt hc)
    refine wa_istore_n dX6_load_7 rfl ?_
    refine wa_aload_n dX6_load_8 rfl ?_
    refine g_VR (by assumption) 0 dX6_load_9 fl_X6_10 (by decide) rfl ?_
    refine wa_iconst (x := 0) dX6_load_12 (by decide) ?_
    refine p_PA (by assumption) 1 dX6_load_13 fl_X6_48 (by decide) rfl rfl rfl rfl (fun _ _ _ => rfl) (Nat.le_of_ble_eq_true rfl) ?_
    refine wa_aload_n dX6_load_16 rfl ?_
    refine wa_aload_n dX6_load_17 rfl ?_
    refine g_VR (by assumption) 0 dX6_load_18 fl_X6_10 (by decide) rfl ?_
    refine g_PA (by assumption) 3 dX6_load_21 fl_X6_70 (by decide) rfl ?_
    refine p_VR (by assumption) 1 dX6_load_24 fl_X6_73 (by decide) rfl rfl rfl rfl (fun _ _ _ => rfl) (Nat.le_of_ble_eq_true rfl) ?_
    refine wa_aload_n dX6_load_27 rfl ?_
    refine wa_aload_n dX6_load_28 rfl ?_
    refine g_VR (by assumption) 0 dX6_load_29 fl_X6_10 (by decide) rfl ?_
    refine g_PA (by assumption) 4 dX6_load_32 fl_X6_76 (by decide) rfl ?_
    refine p_VR (by assumption) 2 dX6_load_35 fl_X6_44 (by decide) rfl rfl rfl rfl (fun _ _ _ => rfl) (Nat.le_of_ble_eq_true rfl) ?_
    refine wa_iload_n dX6_load_38 rfl ?_
    refine wa_if_ne 45 dX6_load_39 rfl (fun c39 => ?_) (fun c39 => absurd c39 (by decide))
    refine wa_aload_n dX6_load_45 rfl ?_
    refine c_VQV dX6_load_46 (vr_remember hn1 h3 hg hP3 hc h73) lk_X6_79 rfl (isO_VR _ _ _) rfl (ltS hn1) (fun S4 r4 => ?_)
    have hd4 := hd3.rem r4 hP3 hc (Or.inl ⟨by decide, by decide⟩)
    refine wa_aload_n dX6_load_49 rfl ?_
    refine g_VR (by assumption) 4 dX6_load_50 fl_X6_26 (by decide) rfl ?_
    refine wa_aload_n dX6_load_53 rfl ?_
    refine g_VR (by assumption) 0 dX6_load_54 fl_X6_10 (by decide) rfl ?_
    refine g_PA (by assumption) 2 dX6_load_57 fl_X6_82 (by decide) rfl ?_
    refine c_VQV dX6_load_60 (hh_hcopy hn1 isH_house (by decide) hd4 k1.gg.1.e0 (fun i hi => ⟨k1.gg.1.opn hi, k1.gg.1.pre hi⟩)) lk_X6_85 rfl (isH.HO isH_house _ _ _) rfl (lt_HO isH_house hn1) (fun S5 r5 => ?_)
    obtain ⟨a5, b5, c5n⟩ := r5
    refine wa_aload_n dX6_load_63 rfl ?_
    refine g_VR (by assumption) 4 dX6_load_64 fl_X6_26 (by decide) rfl ?_
    refine H_hd a5 hn1 9 dX6_load_67 fl_X6_89 (by decide) (by decide) (fun _ _ _ => rfl) ?_
    exact wa_ireturn dX6_load_70 ⟨by decide, by decide, ⟨_, rfl, rfl⟩, _, _, rfl, rfl, l1, u1, LDV.r hx ⟨rfl, k1.gg.1, _, S4, nf', nl', hv, ⟨(ss_j _ _ (by decide)).trans ((ss_e _ _ _ _).trans k1.2.2.2.1.1), (ss_e _ _ _ _).trans k1.2.2.2.1.2, by rw [ss_o _ _ _ (by decide), ss_o _ _ _ (by decide), ss_e]⟩, r4, b5, a5, k1.nr, k1.nx.fr (fun i hi => (c5n i hi).trans (r4.2.2.2.1 _ (by have := k1.gg.1.rn6; omega))) (by unfold sbr; rw [b5.1, r4.1]; rfl) (by unfold ltc; rw [b5.1, r4.1]; rfl)⟩⟩

