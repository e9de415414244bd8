/-! ValveRoomModel: targets, driving. Written by program (wip/whole/gen/m510.py) but for the heads. -/
abbrev row (S : SS) : Nat → Int32 := S.1 (mr S)
/-- the row changed by F -/
def md (F : (Nat → Int32) → Nat → Int32) (S : SS) : SS := su S (mr S) (F (row S))
theorem md_2 (F : (Nat → Int32) → Nat → Int32) (S : SS) : (md F S).2 = S.2 := rfl
theorem md_mr (F : (Nat → Int32) → Nat → Int32) (S : SS) : mr (md F S) = mr S := rfl
theorem md_row (F : (Nat → Int32) → Nat → Int32) (S : SS) : row (md F S) = F (row S) := by
  show (su S (mr S) (F (row S))).1 (mr S) = _
  rw [su_s]
theorem md_1 (F : (Nat → Int32) → Nat → Int32) (S : SS) : (md F S).1 (mr S) = F (row S) := su_s _ _ _
theorem md_md (F G : (Nat → Int32) → Nat → Int32) (S : SS) : md G (md F S) = md (fun g => G (F g)) S := by
  show su (su S (mr S) (F (row S))) (mr S) (G (row (md F S))) = _
  rw [md_row]
  unfold md su
  congr 1
  funext k
  by_cases h : k = mr S
  · simp [h]
  · simp [h]
def of (g : Nat → Int32) (i w : Nat) : Int32 := g (71 + 66 * i + w)
def pt (g : Nat → Int32) (i w : Nat) (x : Int32) : Nat → Int32 := upd g (71 + 66 * i + w) x
def ad (g : Nat → Int32) (i w : Nat) (x : Int32) : Nat → Int32 := upd g (71 + 66 * i + w) (of g i w + x)
theorem of_pt (g : Nat → Int32) {i w i' w' : Nat} (x : Int32) (hw : w < 66) (hw' : w' < 66) : of (pt g i w x) i' w' = if i' = i ∧ w' = w then x else of g i' w' := by
  unfold of pt upd
  by_cases h : i' = i ∧ w' = w
  · rw [if_pos (by omega), if_pos h]
  · rw [if_neg (by omega), if_neg h]
theorem of_ad (g : Nat → Int32) {i w i' w' : Nat} (x : Int32) (hw : w < 66) (hw' : w' < 66) : of (ad g i w x) i' w' = if i' = i ∧ w' = w then of g i w + x else of g i' w' := of_pt g (of g i w + x) hw hw'
theorem pt_lo (g : Nat → Int32) {i w k : Nat} (x : Int32) (hk : k < 71) : pt g i w x k = g k := if_neg (by omega)
theorem ad_lo (g : Nat → Int32) {i w k : Nat} (x : Int32) (hk : k < 71) : ad g i w x k = g k := if_neg (by omega)
/-- the program of room i; what it tells; its target; is it within the band; what is wanted of the valve -/
def pg (g : Nat → Int32) (i : Nat) : Nat → Int32 := fun t => if t < 48 then of g i (18 + t) else 0
def tod (g : Nat → Int32) : Nat := (g 1).toInt.toNat % 48
def tgt (g : Nat → Int32) (i : Nat) : Int32 := if 0 < of g i 9 then of g i 8 else told (pg g i) (tod g) - (if of g i 6 = 1 then 0 else g 6)
def mis (g : Nat → Int32) (i : Nat) : Int32 := tgt g i - of g i 0
def inb (g : Nat → Int32) (i : Nat) : Prop := i_abs (mis g i) ≤ g 7
def drs (g : Nat → Int32) (i : Nat) (to most : Int32) : Int32 := i_min (i_min (i_abs (to - of g i 1)) most) (of g i 2)
def f_drive (i : Nat) (to most : Int32) (g : Nat → Int32) : Nat → Int32 := ad (ad (ad g i 1 (if to < of g i 1 then -drs g i to most else drs g i to most)) i 2 (-drs g i to most)) i 12 (drs g i to most)
theorem mm_of2 {n i w : Nat} {S : SS} (hn : 279 ≤ n) (hi : i < 6) (hw : w < 66) : AM yX7_of cX7_of 3 (some .int) [] 0 0 0 [.ref 267, .int (nI i), .int (nI w)] n (Hp S) (PI (of (row S) i w) n S) := mm_of hn hi hw
theorem mm_add2 {n i w : Nat} {S : SS} (hn : 279 ≤ n) (hi : i < 6) (hw : w < 66) (x : Int32) : AM yX7_add cX7_add 4 none [] 0 0 0 [.ref 267, .int (nI i), .int (nI w), .int x] n (Hp S) (PV n (md (fun g => ad g i w x) S)) := mm_add hn hi hw x
theorem mm_put2 {n i w : Nat} {S : SS} (hn : 279 ≤ n) (hi : i < 6) (hw : w < 66) (x : Int32) : AM yX7_put cX7_put 4 none [] 0 0 0 [.ref 267, .int (nI i), .int (nI w), .int x] n (Hp S) (PV n (md (fun g => pt g i w x) S)) := mm_put hn hi hw x
theorem mm_counts2 {n i w : Nat} {S : SS} (hn : 279 ≤ n) (hi : i < 6) (hw : w < 6) : AM yX7_counts cX7_counts 3 none [] 1 0 0 [.ref 267, .int (nI i), .int (nI w)] n (Hp S) (PV n (md (fun g => ad g i (12 + w) 1) S)) := mm_counts hn hi hw
theorem mm_drive {n i : Nat} {S : SS} (hn : 279 ≤ n) (hi : i < 6) (to most : Int32) : AM yX7_drive cX7_drive 6 none [] 1 0 0 [.ref 267, .int (nI i), .int to, .int most] n (Hp S) (PV n (md (f_drive i to most) S)) := by
  intro has
  change WA RX7 cX7_drive 6 [] _ _ 0 0 0 [some (.ref 267), some (.int (nI i)), some (.int to), some (.int most), none, none] [] n _
  refine wa_iload_n dX7_drive_0 rfl ?_
  refine wa_aload_n dX7_drive_1 rfl ?_
  refine wa_iload_n dX7_drive_2 rfl ?_
  refine wa_iconst (x := 1) dX7_drive_3 (by decide) ?_
  refine c_VI dX7_drive_4 (mm_of2 (w := 1) (by assumption) hi (by decide)) lk_X7_68 rfl (isO_MO _ _ _) rfl (ltS (by assumption)) ?_
  refine wa_isub dX7_drive_7 ?_
  refine c_SI dX7_drive_8 (am_abs _) lk_X7_82 rfl ?_
  refine wa_istore dX7_drive_11 rfl ?_
  refine wa_iload dX7_drive_13 rfl ?_
  refine wa_iload_n dX7_drive_15 rfl ?_
  refine c_SI dX7_drive_16 (am_min _ _) lk_X7_100 rfl ?_
  refine wa_aload_n dX7_drive_19 rfl ?_
  refine wa_iload_n dX7_drive_20 rfl ?_
  refine wa_iconst (x := 2) dX7_drive_21 (by decide) ?_
  refine c_VI dX7_drive_22 (mm_of2 (w := 2) (by assumption) hi (by decide)) lk_X7_68 rfl (isO_MO _ _ _) rfl (ltS (by assumption)) ?_
  refine c_SI dX7_drive_25 (am_min _ _) lk_X7_100 rfl ?_
  refine wa_istore dX7_drive_28 rfl ?_
  refine wa_aload_n dX7_drive_30 rfl ?_
  refine wa_iload_n dX7_drive_31 rfl ?_
  refine wa_iconst (x := 1) dX7_drive_32 (by decide) ?_
  refine wa_iload_n dX7_drive_33 rfl ?_
  refine wa_aload_n dX7_drive_34 rfl ?_
  refine wa_iload_n dX7_drive_35 rfl ?_
  refine wa_iconst (x := 1) dX7_drive_36 (by decide) ?_
  refine c_VI dX7_drive_37 (mm_of2 (w := 1) (by assumption) hi (by decide)) lk_X7_68 rfl (isO_MO _ _ _) rfl (ltS (by assumption)) ?_
  refine wa_icmp_ge 49 dX7_drive_40 rfl (fun c40 => ?_) (fun c40 => ?_)
  · refine wa_iload dX7_drive_49 rfl ?_
    refine c_VV dX7_drive_51 (mm_add2 (w := 1) (by assumption) hi (by decide) _) lk_X7_64 rfl (isO_MO _ _ _) rfl (ltS (by assumption)) ?_
    refine wa_aload_n dX7_drive_54 rfl ?_
    refine wa_iload_n dX7_drive_55 rfl ?_
    refine wa_iconst (x := 2) dX7_drive_56 (by decide) ?_
    refine wa_iload dX7_drive_57 rfl ?_
    refine wa_ineg dX7_drive_59 ?_
    refine c_VV dX7_drive_60 (mm_add2 (w := 2) (by assumption) hi (by decide) _) lk_X7_64 rfl (isO_MO _ _ _) rfl (ltS (by assumption)) ?_
    refine wa_aload_n dX7_drive_63 rfl ?_
    refine wa_iload_n dX7_drive_64 rfl ?_
    refine wa_bipush (x := 12) dX7_drive_65 (by decide) ?_
    refine wa_iload dX7_drive_67 rfl ?_
    refine c_VV dX7_drive_69 (mm_add2 (w := 12) (by assumption) hi (by decide) _) lk_X7_64 rfl (isO_MO _ _ _) rfl (ltS (by assumption)) ?_
    exact wa_return dX7_drive_72 ⟨Nat.le_refl _, Nat.le_refl _, rfl, rfl, rfl, congrArg Hp (by rw [md_md, md_md]; unfold md f_drive drs; first | (rw [if_neg (Int32.not_lt.mpr c40)]) | (rw [if_pos (Int32.not_le.mp c40)]))⟩
  · refine wa_iload dX7_drive_43 rfl ?_
    refine wa_ineg dX7_drive_45 ?_
    refine wa_goto 51 dX7_drive_46 rfl ?_
    refine c_VV dX7_drive_51 (mm_add2 (w := 1) (by assumption) hi (by decide) _) lk_X7_64 rfl (isO_MO _ _ _) rfl (ltS (by assumption)) ?_
    refine wa_aload_n dX7_drive_54 rfl ?_
    refine wa_iload_n dX7_drive_55 rfl ?_
    refine wa_iconst (x := 2) dX7_drive_56 (by decide) ?_
    refine wa_iload dX7_drive_57 rfl ?_
    refine wa_ineg dX7_drive_59 ?_
    refine c_VV dX7_drive_60 (mm_add2 (w := 2) (by assumption) hi (by decide) _) lk_X7_64 rfl (isO_MO _ _ _) rfl (ltS (by assumption)) ?_
    refine wa_aload_n dX7_drive_63 rfl ?_
    refine wa_iload_n dX7_drive_64 rfl ?_
    refine wa_bipush (x := 12) dX7_drive_65 (by decide) ?_
    refine wa_iload dX7_drive_67 rfl ?_
    refine c_VV dX7_drive_69 (mm_add2 (w := 12) (by assumption) hi (by decide) _) lk_X7_64 rfl (isO_MO _ _ _) rfl (ltS (by assumption)) ?_
    exact wa_return dX7_drive_72 ⟨Nat.le_refl _, Nat.le_refl _, rfl, rfl, rfl, congrArg Hp (by rw [md_md, md_md]; unfold md f_drive drs; first | (rw [if_neg (Int32.not_lt.mpr c40)]) | (rw [if_pos (Int32.not_le.mp c40)]))⟩
