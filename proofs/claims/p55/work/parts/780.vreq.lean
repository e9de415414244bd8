/-! ValveRoom: requireRange, roomAt, requirePlan, requireSlot, requireLook. Written by program (wip/whole/gen/m780.py) but for the heads. -/
theorem vr_range {n : Nat} {S : SS} {x a b : Int32} (h1 : a ≤ x) (h2 : x ≤ b) : AM yX6_requireRange cX6_requireRange 3 none [] 0 0 0 [.int x, .int a, .int b] n (Hp S) (PV n S) := by
  intro has
  change WA RX6 cX6_requireRange 3 [] _ _ 0 0 0 [some (.int x), some (.int a), some (.int b)] [] n _
  refine wa_iload_n dX6_requireRange_0 rfl ?_
  refine wa_iload_n dX6_requireRange_1 rfl ?_
  refine wa_icmp_lt 10 dX6_requireRange_2 rfl (fun c2 => absurd h1 (Int32.not_le.mpr c2)) (fun c2 => ?_)
  refine wa_iload_n dX6_requireRange_5 rfl ?_
  refine wa_iload_n dX6_requireRange_6 rfl ?_
  refine wa_icmp_le 21 dX6_requireRange_7 rfl (fun c7 => ?_) (fun c7 => absurd h2 c7)
  exact wa_return dX6_requireRange_21 ⟨Nat.le_refl _, Nat.le_refl _, rfl, rfl, rfl, rfl⟩
/-- a room's House, each row its own -/
theorem HH.lvT {S : SS} {a i : Nat} {g : Nat → Int32} (h : HH S a g (fun _ => True)) (hi : i < rn g) : LV S S a (a + 5 + 3 * i) g i := by
  obtain ⟨γ, -, g2, hl⟩ := h.lv hi
  exact ⟨hl.1, hl.2.1, hl.2.2.1, hl.2.2.2.1, h.2.1, RR_rst (g2 trivial) hl.2.2.2.2.2⟩
theorem rk_i {S : SS} {a : Nat} {g : Nat → Int32} {P : Nat → Prop} {r : Int32} (h : HH S a g P) (h1 : 0 ≤ r ∧ r < g 0) : r = nI r.toInt.toNat ∧ r.toInt.toNat < rn g ∧ r.toInt.toNat < 6 := by
  have h0 := h1.1
  rw [Int32.le_iff_toInt_le, Int32.toInt_zero] at h0
  have h2 := Int32.lt_iff_toInt_lt.mp h1.2
  have h6 := h.1.2.1
  unfold rn at *
  exact ⟨(nI_of_nn h0).1, by omega, by omega⟩
theorem rk_l {T : Int} {g : Nat → Int32} {i : Nat} (hg : GG T g) (hi : i < rn g) : 0 ≤ nI i ∧ nI i < g 0 := by
  have := hg.rn6
  exact ⟨nI_0le (by omega), by rw [hg.e0]; exact nI_lt hi (by omega)⟩
theorem vr_roomAt {n i : Nat} {S : SS} {g : Nat → Int32} (hn : 269 ≤ n) (h : HH S 34 g (fun _ => True)) (hi : i < 6) (h1 : nI i < g 0) : AM yX6_roomAt cX6_roomAt 2 (some (.object "ValveRoom$Room")) [] 0 0 0 [.ref 0, .int (nI i)] n (Hp S) (PA (.ref (34 + 5 + 3 * i)) n S) := by
  intro has
  change WA RX6 cX6_roomAt 2 [] _ _ 0 0 0 [some (.ref 0), some (.int (nI i))] [] n _
  refine wa_iload_n dX6_roomAt_0 rfl ?_
  refine wa_if_lt 15 dX6_roomAt_1 rfl (fun c1 => absurd c1 (Int32.not_lt.mpr (nI_0le (by omega)))) (fun c1 => ?_)
  refine wa_iload_n dX6_roomAt_4 rfl ?_
  refine wa_aload_n dX6_roomAt_5 rfl ?_
  refine g_VR (by assumption) 4 dX6_roomAt_6 fl_X6_26 (by decide) rfl ?_
  refine H_hd h hn 9 dX6_roomAt_9 fl_X6_89 (by decide) (by decide) (fun _ _ _ => rfl) ?_
  refine wa_icmp_lt 26 dX6_roomAt_12 rfl (fun c12 => ?_) (fun c12 => absurd h1 c12)
  refine wa_aload_n dX6_roomAt_26 rfl ?_
  refine g_VR (by assumption) 4 dX6_roomAt_27 fl_X6_26 (by decide) rfl ?_
  refine g_HO h.H hn 10 dX6_roomAt_30 fl_X6_231 (by decide) rfl ?_
  refine wa_iload_n dX6_roomAt_33 rfl ?_
  refine L_room h.H hn (ix_nI (by omega)) hi dX6_roomAt_34 ?_
  exact wa_areturn dX6_roomAt_35 ⟨Nat.le_refl _, Nat.le_refl _, ⟨_, rfl, Or.inl ⟨_, rfl⟩⟩, rfl, rfl, rfl⟩
theorem vr_roomAtR {n : Nat} {S : SS} {g : Nat → Int32} {r : Int32} (hn : 269 ≤ n) (h : HH S 34 g (fun _ => True)) (h1 : 0 ≤ r ∧ r < g 0) : AM yX6_roomAt cX6_roomAt 2 (some (.object "ValveRoom$Room")) [] 0 0 0 [.ref 0, .int r] n (Hp S) (PA (.ref (34 + 5 + 3 * r.toInt.toNat)) n S) := by
  obtain ⟨e, h2, h6⟩ := rk_i h h1
  have q := vr_roomAt (i := r.toInt.toNat) hn h h6 (by rw [← e]; exact h1.2)
  rw [← e] at q
  exact q
theorem vr_plan {n : Nat} {S : SS} {g : Nat → Int32} (hn : 269 ≤ n) (h : HH S 34 g (fun _ => True)) {r : Int32} (h1 : 0 ≤ r ∧ r < g 3) : AM yX6_requirePlan cX6_requirePlan 2 none [] 0 0 0 [.ref 0, .int r] n (Hp S) (PV n S) := by
  intro has
  change WA RX6 cX6_requirePlan 2 [] _ _ 0 0 0 [some (.ref 0), some (.int r)] [] n _
  refine wa_iload_n dX6_requirePlan_0 rfl ?_
  refine wa_if_lt 15 dX6_requirePlan_1 rfl (fun c1 => absurd c1 (Int32.not_lt.mpr h1.1)) (fun c1 => ?_)
  refine wa_iload_n dX6_requirePlan_4 rfl ?_
  refine wa_aload_n dX6_requirePlan_5 rfl ?_
  refine g_VR (by assumption) 4 dX6_requirePlan_6 fl_X6_26 (by decide) rfl ?_
  refine H_hd h hn 11 dX6_requirePlan_9 fl_X6_110 (by decide) (by decide) (fun _ _ _ => rfl) ?_
  refine wa_icmp_lt 26 dX6_requirePlan_12 rfl (fun c12 => ?_) (fun c12 => absurd h1.2 c12)
  exact wa_return dX6_requirePlan_26 ⟨Nat.le_refl _, Nat.le_refl _, rfl, rfl, rfl, rfl⟩
