/-! ValveRoomModel: plans and a tick. Written by program (wip/whole/gen/m530.py) but for the heads. -/
theorem md_ss (f : Nat → Int32) (S : SS) (j : Nat) (x : Int32) : ss (md (fun _ => f) S) (mr (md (fun _ => f) S)) j x = md (fun _ => upd f j x) S := by
  rw [md_mr]
  unfold md
  exact ss_su S (mr S) j f x
theorem md_self (S : SS) : md (fun _ => row S) S = S := su_self S (mr S)
theorem md_c (f : Nat → Int32) (F : (Nat → Int32) → Nat → Int32) (S : SS) : md F (md (fun _ => f) S) = md (fun _ => F f) S := md_md _ _ _
theorem md_f (F : (Nat → Int32) → Nat → Int32) (S : SS) : md (fun _ => F (row S)) S = md F S := rfl
/-- the numbers of plans and of rooms -/
def pn (g : Nat → Int32) : Nat := (g 3).toInt.toNat
def rn (g : Nat → Int32) : Nat := (g 0).toInt.toNat
def f_carry (i : Nat) (k : Int32) (g : Nat → Int32) : Nat → Int32 := ad (if k = 0 ∨ k = 1 then pt g i 5 (if k = 0 then 1 else 0) else pt g i 6 (if k = 2 then 1 else 0)) i 15 1
def f_drop (a m : Nat) (g : Nat → Int32) : Nat → Int32 := fun j => if j = 3 then g 3 - nI m else if 11 + 3 * a ≤ j ∧ j < 11 + 3 * (pn g - m) then g (j + 3 * m) else g j
theorem mm_carryOut {n i : Nat} {S : SS} (hn : 279 ≤ n) (hi : i < 6) (k : Int32) : AM yX7_carryOut cX7_carryOut 3 none [] 2 0 0 [.ref 267, .int (nI i), .int k] n (Hp S) (PV n (md (f_carry i k) S)) := by
  intro has
  change WA RX7 cX7_carryOut 3 [] _ _ 0 0 0 [some (.ref 267), some (.int (nI i)), some (.int k)] [] n _
  refine wa_iload_n dX7_carryOut_0 rfl ?_
  refine wa_if_eq 9 dX7_carryOut_1 rfl (fun c1 => ?_) (fun c1 => ?_)
  · refine wa_aload_n dX7_carryOut_9 rfl ?_
    refine wa_iload_n dX7_carryOut_10 rfl ?_
    refine wa_iconst (x := 5) dX7_carryOut_11 (by decide) ?_
    refine wa_iload_n dX7_carryOut_12 rfl ?_
    refine wa_if_ne 20 dX7_carryOut_13 rfl (fun c13 => ?_) (fun c13 => ?_)
    · refine wa_iconst (x := 0) dX7_carryOut_20 (by decide) ?_
      refine c_VV dX7_carryOut_21 (mm_put2 (w := 5) (by assumption) hi (by decide) _) lk_X7_105 rfl (isO_MO _ _ _) rfl (ltS (by assumption)) ?_
      refine wa_goto 44 dX7_carryOut_24 rfl ?_
      refine wa_aload_n dX7_carryOut_44 rfl ?_
      refine wa_iload_n dX7_carryOut_45 rfl ?_
      refine wa_iconst (x := 3) dX7_carryOut_46 (by decide) ?_
      refine c_VV dX7_carryOut_47 (mm_counts2 (w := 3) (by assumption) hi (by decide)) lk_X7_108 rfl (isO_MO _ _ _) rfl (ltS (by assumption)) ?_
      exact wa_return dX7_carryOut_50 ⟨Nat.le_refl _, Nat.le_refl _, rfl, rfl, rfl, congrArg Hp (by rw [md_md]; unfold md f_carry; simp_all; done)⟩
    · refine wa_iconst (x := 1) dX7_carryOut_16 (by decide) ?_
      refine wa_goto 21 dX7_carryOut_17 rfl ?_
      refine c_VV dX7_carryOut_21 (mm_put2 (w := 5) (by assumption) hi (by decide) _) lk_X7_105 rfl (isO_MO _ _ _) rfl (ltS (by assumption)) ?_
      refine wa_goto 44 dX7_carryOut_24 rfl ?_
      refine wa_aload_n dX7_carryOut_44 rfl ?_
      refine wa_iload_n dX7_carryOut_45 rfl ?_
      refine wa_iconst (x := 3) dX7_carryOut_46 (by decide) ?_
      refine c_VV dX7_carryOut_47 (mm_counts2 (w := 3) (by assumption) hi (by decide)) lk_X7_108 rfl (isO_MO _ _ _) rfl (ltS (by assumption)) ?_
      exact wa_return dX7_carryOut_50 ⟨Nat.le_refl _, Nat.le_refl _, rfl, rfl, rfl, congrArg Hp (by rw [md_md]; unfold md f_carry; simp_all; done)⟩
  · refine wa_iload_n dX7_carryOut_4 rfl ?_
    refine wa_iconst (x := 1) dX7_carryOut_5 (by decide) ?_
    refine wa_icmp_ne 27 dX7_carryOut_6 rfl (fun c6 => ?_) (fun c6 => ?_)
    · refine wa_aload_n dX7_carryOut_27 rfl ?_
      refine wa_iload_n dX7_carryOut_28 rfl ?_
      refine wa_bipush (x := 6) dX7_carryOut_29 (by decide) ?_
      refine wa_iload_n dX7_carryOut_31 rfl ?_
      refine wa_iconst (x := 2) dX7_carryOut_32 (by decide) ?_
      refine wa_icmp_ne 40 dX7_carryOut_33 rfl (fun c33 => ?_) (fun c33 => ?_)
      · refine wa_iconst (x := 0) dX7_carryOut_40 (by decide) ?_
        refine c_VV dX7_carryOut_41 (mm_put2 (w := 6) (by assumption) hi (by decide) _) lk_X7_105 rfl (isO_MO _ _ _) rfl (ltS (by assumption)) ?_
        refine wa_aload_n dX7_carryOut_44 rfl ?_
        refine wa_iload_n dX7_carryOut_45 rfl ?_
        refine wa_iconst (x := 3) dX7_carryOut_46 (by decide) ?_
        refine c_VV dX7_carryOut_47 (mm_counts2 (w := 3) (by assumption) hi (by decide)) lk_X7_108 rfl (isO_MO _ _ _) rfl (ltS (by assumption)) ?_
        exact wa_return dX7_carryOut_50 ⟨Nat.le_refl _, Nat.le_refl _, rfl, rfl, rfl, congrArg Hp (by rw [md_md]; unfold md f_carry; simp_all; done)⟩
      · refine wa_iconst (x := 1) dX7_carryOut_36 (by decide) ?_
        refine wa_goto 41 dX7_carryOut_37 rfl ?_
        refine c_VV dX7_carryOut_41 (mm_put2 (w := 6) (by assumption) hi (by decide) _) lk_X7_105 rfl (isO_MO _ _ _) rfl (ltS (by assumption)) ?_
        refine wa_aload_n dX7_carryOut_44 rfl ?_
        refine wa_iload_n dX7_carryOut_45 rfl ?_
        refine wa_iconst (x := 3) dX7_carryOut_46 (by decide) ?_
        refine c_VV dX7_carryOut_47 (mm_counts2 (w := 3) (by assumption) hi (by decide)) lk_X7_108 rfl (isO_MO _ _ _) rfl (ltS (by assumption)) ?_
        exact wa_return dX7_carryOut_50 ⟨Nat.le_refl _, Nat.le_refl _, rfl, rfl, rfl, congrArg Hp (by rw [md_md]; unfold md f_carry; simp_all; done)⟩
    · refine wa_aload_n dX7_carryOut_9 rfl ?_
      refine wa_iload_n dX7_carryOut_10 rfl ?_
      refine wa_iconst (x := 5) dX7_carryOut_11 (by decide) ?_
      refine wa_iload_n dX7_carryOut_12 rfl ?_
      refine wa_if_ne 20 dX7_carryOut_13 rfl (fun c13 => ?_) (fun c13 => ?_)
      · refine wa_iconst (x := 0) dX7_carryOut_20 (by decide) ?_
        refine c_VV dX7_carryOut_21 (mm_put2 (w := 5) (by assumption) hi (by decide) _) lk_X7_105 rfl (isO_MO _ _ _) rfl (ltS (by assumption)) ?_
        refine wa_goto 44 dX7_carryOut_24 rfl ?_
        refine wa_aload_n dX7_carryOut_44 rfl ?_
        refine wa_iload_n dX7_carryOut_45 rfl ?_
        refine wa_iconst (x := 3) dX7_carryOut_46 (by decide) ?_
        refine c_VV dX7_carryOut_47 (mm_counts2 (w := 3) (by assumption) hi (by decide)) lk_X7_108 rfl (isO_MO _ _ _) rfl (ltS (by assumption)) ?_
        exact wa_return dX7_carryOut_50 ⟨Nat.le_refl _, Nat.le_refl _, rfl, rfl, rfl, congrArg Hp (by rw [md_md]; unfold md f_carry; simp_all; done)⟩
      · refine wa_iconst (x := 1) dX7_carryOut_16 (by decide) ?_
        refine wa_goto 21 dX7_carryOut_17 rfl ?_
        refine c_VV dX7_carryOut_21 (mm_put2 (w := 5) (by assumption) hi (by decide) _) lk_X7_105 rfl (isO_MO _ _ _) rfl (ltS (by assumption)) ?_
        refine wa_goto 44 dX7_carryOut_24 rfl ?_
        refine wa_aload_n dX7_carryOut_44 rfl ?_
        refine wa_iload_n dX7_carryOut_45 rfl ?_
        refine wa_iconst (x := 3) dX7_carryOut_46 (by decide) ?_
        refine c_VV dX7_carryOut_47 (mm_counts2 (w := 3) (by assumption) hi (by decide)) lk_X7_108 rfl (isO_MO _ _ _) rfl (ltS (by assumption)) ?_
        exact wa_return dX7_carryOut_50 ⟨Nat.le_refl _, Nat.le_refl _, rfl, rfl, rfl, congrArg Hp (by rw [md_md]; unfold md f_carry; simp_all; done)⟩
