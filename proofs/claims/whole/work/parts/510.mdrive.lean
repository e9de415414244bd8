/-! ValveRoomModel: targets, driving. Written by program (wip/whole/gen/m510.py) but for the heads. -/
abbrev row (S : SS) : Nat → Int32 := S.1 (mr S)
/-- the row changed by F -/
def md (F : (Nat → Int32) → Nat → Int32) (S : SS) : SS := su S (mr S) (F (row S))
theorem md_2 (F : (Nat → Int32) → Nat → Int32) (S : SS) : (md F S).2 = S.2 := rfl
theorem md_mr (F : (Nat → Int32) → Nat → Int32) (S : SS) : mr (md F S) = mr S := rfl
theorem md_row (F : (Nat → Int32) → Nat → Int32) (S : SS) : row (md F S) = F (row S) := by
  show (su S (mr S) (F (row S))).1 (mr S) = _
  rw [su_s]
theorem md_1 (F : (Nat → Int32) → Nat → Int32) (S : SS) : (md F S).1 (mr S) = F (row S) := su_s _ _ _
theorem md_md (F G : (Nat → Int32) → Nat → Int32) (S : SS) : md G (md F S) = md (fun g => G (F g)) S := by
  show su (su S (mr S) (F (row S))) (mr S) (G (row (md F S))) = _
  rw [md_row]
  unfold md su
  congr 1
  funext k
  by_cases h : k = mr S
  · simp [h]
  · simp [h]
def of (g : Nat → Int32) (i w : Nat) : Int32 := g (71 + 66 * i + w)
def pt (g : Nat → Int32) (i w : Nat) (x : Int32) : Nat → Int32 := upd g (71 + 66 * i + w) x
def ad (g : Nat → Int32) (i w : Nat) (x : Int32) : Nat → Int32 := upd g (71 + 66 * i + w) (of g i w + x)
theorem of_pt (g : Nat → Int32) {i w i' w' : Nat} (x : Int32) (hw : w < 66) (hw' : w' < 66) : of (pt g i w x) i' w' = if i' = i ∧ w' = w then x else of g i' w' := by
  unfold of pt upd
  by_cases h : i' = i ∧ w' = w
  · rw [if_pos (by omega), if_pos h]
  · rw [if_neg (by omega), if_neg h]
theorem of_ad (g : Nat → Int32) {i w i' w' : Nat} (x : Int32) (hw : w < 66) (hw' : w' < 66) : of (ad g i w x) i' w' = if i' = i ∧ w' = w then of g i w + x else of g i' w' := of_pt g (of g i w + x) hw hw'
theorem pt_lo (g : Nat → Int32) {i w k : Nat} (x : Int32) (hk : k < 71) : pt g i w x k = g k := if_neg (by omega)
theorem ad_lo (g : Nat → Int32) {i w k : Nat} (x : Int32) (hk : k < 71) : ad g i w x k = g k := if_neg (by omega)
/-- the program of room i; what it tells; its target; is it within the band; what is wanted of the valve -/
def pg (g : Nat → Int32) (i : Nat) : Nat → Int32 := fun t => if t < 48 then of g i (18 + t) else 0
def tod (g : Nat → Int32) : Nat := (g 1).toInt.toNat % 48
def tgt (g : Nat → Int32) (i : Nat) : Int32 := if 0 < of g i 9 then of g i 8 else told (pg g i) (tod g) - (if of g i 6 = 1 then 0 else g 6)
def mis (g : Nat → Int32) (i : Nat) : Int32 := tgt g i - of g i 0
def inb (g : Nat → Int32) (i : Nat) : Prop := i_abs (mis g i) ≤ g 7
def drs (g : Nat → Int32) (i : Nat) (to most : Int32) : Int32 := i_min (i_min (i_abs (to - of g i 1)) most) (of g i 2)
def f_drive (i : Nat) (to most : Int32) (g : Nat → Int32) : Nat → Int32 := ad (ad (ad g i 1 (if to < of g i 1 then -drs g i to most else drs g i to most)) i 2 (-drs g i to most)) i 12 (drs g i to most)
theorem mm_of2 {n i w : Nat} {S : SS} (hn : 279 ≤ n) (hi : i < 6) (hw : w < 66) : AM yX7_of cX7_of 3 (some .int) [] 0 0 0 [.ref 267, .int (nI i), .int (nI w)] n (Hp S) (PI (of (row S) i w) n S) := mm_of hn hi hw
theorem mm_add2 {n i w : Nat} {S : SS} (hn : 279 ≤ n) (hi : i < 6) (hw : w < 66) (x : Int32) : AM yX7_add cX7_add 4 none [] 0 0 0 [.ref 267, .int (nI i), .int (nI w), .int x] n (Hp S) (PV n (md (fun g => ad g i w x) S)) := mm_add hn hi hw x
theorem mm_put2 {n i w : Nat} {S : SS} (hn : 279 ≤ n) (hi : i < 6) (hw : w < 66) (x : Int32) : AM yX7_put cX7_put 4 none [] 0 0 0 [.ref 267, .int (nI i), .int (nI w), .int x] n (Hp S) (PV n (md (fun g => pt g i w x) S)) := mm_put hn hi hw x
theorem mm_counts2 {n i w : Nat} {S : SS} (hn : 279 ≤ n) (hi : i < 6) (hw : w < 6) : AM yX7_counts cX7_counts 3 none [] 1 0 0 [.ref 267, .int (nI i), .int (nI w)] n (Hp S) (PV n (md (fun g => ad g i (12 + w) 1) S)) := mm_counts hn hi hw
theorem mm_drive {n i : Nat} {S : SS} (hn : 279 ≤ n) (hi : i < 6) (to most : Int32) : AM yX7_drive cX7_drive 6 none [] 1 0 0 [.ref 267, .int (nI i), .int to, .int most] n (Hp S) (PV n (md (f_drive i to most) S)) := by
  intro has
  change WA RX7 cX7_drive 6 [] _ _ 0 0 0 [some (.ref 267), some (.int (nI i)), some (.int to), some (.int most), none, none] [] n _
  refine wa_iload_n dX7_drive_0 rfl ?_
  refine wa_aload_n dX7_drive_1 rfl ?_
  refine wa_iload_n dX7_drive_2 rfl ?_
  refine wa_iconst (x := 1) dX7_drive_3 (by decide) ?_
  refine c_VI dX7_drive_4 (mm_of2 (w := 1) (by assumption) hi (by decide)) lk_X7_68 rfl (isO_MO _ _ _) rfl (ltS (by assumption)) ?_
  refine wa_isub dX7_drive_7 ?_
  refine c_SI dX7_drive_8 (am_abs _) lk_X7_82 rfl ?_
  refine wa_istore dX7_drive_11 rfl ?_
  refine wa_iload dX7_drive_13 rfl ?_
  refine wa_iload_n dX7_drive_15 rfl ?_
  refine c_SI dX7_drive_16 (am_min _ _) lk_X7_100 rfl ?_
  refine wa_aload_n dX7_drive_19 rfl ?_
  refine wa_iload_n dX7_drive_20 rfl ?_
  refine wa_iconst (x := 2) dX7_drive_21 (by decide) ?_
  refine c_VI dX7_drive_22 (mm_of2 (w := 2) (by assumption) hi (by decide)) lk_X7_68 rfl (isO_MO _ _ _) rfl (ltS (by assumption)) ?_
  refine c_SI dX7_drive_25 (am_min _ _) lk_X7_100 rfl ?_
  refine wa_istore dX7_drive_28 rfl ?_
  refine wa_aload_n dX7_drive_30 rfl ?_
  refine wa_iload_n dX7_drive_31 rfl ?_
  refine wa_iconst (x := 1) dX7_drive_32 (by decide) ?_
  refine wa_iload_n dX7_drive_33 rfl ?_
  refine wa_aload_n dX7_drive_34 rfl ?_
  refine wa_iload_n dX7_drive_35 rfl ?_
  refine wa_iconst (x := 1) dX7_drive_36 (by decide) ?_
  refine c_VI dX7_drive_37 (mm_of2 (w := 1) (by assumption) hi (by decide)) lk_X7_68 rfl (isO_MO _ _ _) rfl (ltS (by assumption)) ?_
  refine wa_icmp_ge 49 dX7_drive_40 rfl (fun c40 => ?_) (fun c40 => ?_)
  · refine wa_iload dX7_drive_49 rfl ?_
    refine c_VV dX7_drive_51 (mm_add2 (w := 1) (by assumption) hi (by decide) _) lk_X7_64 rfl (isO_MO _ _ _) rfl (ltS (by assumption)) ?_
    refine wa_aload_n dX7_drive_54 rfl ?_
    refine wa_iload_n dX7_drive_55 rfl ?_
    refine wa_iconst (x := 2) dX7_drive_56 (by decide) ?_
    refine wa_iload dX7_drive_57 rfl ?_
    refine wa_ineg dX7_drive_59 ?_
    refine c_VV dX7_drive_60 (mm_add2 (w := 2) (by assumption) hi (by decide) _) lk_X7_64 rfl (isO_MO _ _ _) rfl (ltS (by assumption)) ?_
    refine wa_aload_n dX7_drive_63 rfl ?_
    refine wa_iload_n dX7_drive_64 rfl ?_
    refine wa_bipush (x := 12) dX7_drive_65 (by decide) ?_
    refine wa_iload dX7_drive_67 rfl ?_
    refine c_VV dX7_drive_69 (mm_add2 (w := 12) (by assumption) hi (by decide) _) lk_X7_64 rfl (isO_MO _ _ _) rfl (ltS (by assumption)) ?_
    exact wa_return dX7_drive_72 ⟨Nat.le_refl _, Nat.le_refl _, rfl, rfl, rfl, congrArg Hp (by rw [md_md, md_md]; unfold md f_drive drs; first | (rw [if_neg (Int32.not_lt.mpr c40)]) | (rw [if_pos (Int32.not_le.mp c40)]))⟩
  · refine wa_iload dX7_drive_43 rfl ?_
    refine wa_ineg dX7_drive_45 ?_
    refine wa_goto 51 dX7_drive_46 rfl ?_
    refine c_VV dX7_drive_51 (mm_add2 (w := 1) (by assumption) hi (by decide) _) lk_X7_64 rfl (isO_MO _ _ _) rfl (ltS (by assumption)) ?_
    refine wa_aload_n dX7_drive_54 rfl ?_
    refine wa_iload_n dX7_drive_55 rfl ?_
    refine wa_iconst (x := 2) dX7_drive_56 (by decide) ?_
    refine wa_iload dX7_drive_57 rfl ?_
    refine wa_ineg dX7_drive_59 ?_
    refine c_VV dX7_drive_60 (mm_add2 (w := 2) (by assumption) hi (by decide) _) lk_X7_64 rfl (isO_MO _ _ _) rfl (ltS (by assumption)) ?_
    refine wa_aload_n dX7_drive_63 rfl ?_
    refine wa_iload_n dX7_drive_64 rfl ?_
    refine wa_bipush (x := 12) dX7_drive_65 (by decide) ?_
    refine wa_iload dX7_drive_67 rfl ?_
    refine c_VV dX7_drive_69 (mm_add2 (w := 12) (by assumption) hi (by decide) _) lk_X7_64 rfl (isO_MO _ _ _) rfl (ltS (by assumption)) ?_
    exact wa_return dX7_drive_72 ⟨Nat.le_refl _, Nat.le_refl _, rfl, rfl, rfl, congrArg Hp (by rw [md_md, md_md]; unfold md f_drive drs; first | (rw [if_neg (Int32.not_lt.mpr c40)]) | (rw [if_pos (Int32.not_le.mp c40)]))⟩
theorem nI_div {a b : Nat} (ha : a < 2 ^ 31) (hb : b < 2 ^ 31) (h0 : 0 < b) : nI a / nI b = nI (a / b) := by
  apply Int32.toInt_inj.mp
  have h1 := Nat.div_le_self a b
  rw [Int32.toInt_div, nI_toInt ha, nI_toInt hb, nI_toInt (by omega), Int.tdiv_eq_ediv_of_nonneg (by omega), ← Int.natCast_ediv]
  generalize a / b = q at h1 ⊢
  exact Int.bmod_eq_of_le (by omega) (by omega)
theorem nI_mul (a b : Nat) : nI a * nI b = nI (a * b) := (Int32.ofNat_mul a b).symm
theorem nI_sub {a b : Nat} (h : b ≤ a) : nI a - nI b = nI (a - b) := by
  have := nI_add (a - b) b
  rw [Nat.sub_add_cancel h] at this
  rw [← this, Int32.add_sub_cancel]
theorem nI_rem {a b : Nat} (ha : a < 2 ^ 31) (hb : b < 2 ^ 31) (h0 : 0 < b) : nI a - nI a / nI b * nI b = nI (a % b) := by
  rw [nI_div ha hb h0, nI_mul, nI_sub (Nat.div_mul_le_self a b)]
  congr 1
  have := Nat.div_add_mod a b
  rw [Nat.mul_comm] at this
  omega
theorem nI_of_nn {x : Int32} (h : 0 ≤ x.toInt) : x = nI x.toInt.toNat ∧ x.toInt.toNat < 2 ^ 31 := by
  have h2 := Int32.toInt_lt x
  refine ⟨Int32.toInt_inj.mp ?_, by omega⟩
  rw [nI_toInt (by omega)]
  omega
theorem rem48 {x : Int32} (h : 0 ≤ x.toInt) : x - x / 48 * 48 = nI (x.toInt.toNat % 48) := by
  obtain ⟨h1, h2⟩ := nI_of_nn h
  have := nI_rem (a := x.toInt.toNat) (b := 48) h2 (by decide) (by decide)
  rw [← h1] at this
  exact this
theorem PT.pos {P : Nat → Int32} (h : PT P) (t : Nat) : 0 < P t ↔ ¬ P t = 0 := by
  constructor
  · intro q e
    rw [e] at q
    exact absurd q (by decide)
  · intro q
    have := (h.2 t).resolve_left q
    rw [Int32.lt_iff_toInt_lt, Int32.toInt_zero]
    omega
theorem pg_at {g : Nat → Int32} {i t : Nat} (ht : t < 48) : g (71 + 66 * i + (18 + t)) = pg g i t := by unfold pg of; rw [if_pos ht]
def bkI (P : Nat → Int32) (tick n : Nat) : Prop := if n ≤ tick then back P (tick + 1) = back P (tick + 1 - n) else back P (tick + 1) = 0 ∧ back P 48 = back P (tick + 49 - n)
theorem bkI_0 {P : Nat → Int32} {tick : Nat} : bkI P tick 0 := by unfold bkI; rw [if_pos (Nat.zero_le _)]; rfl
theorem bkI_s {P : Nat → Int32} {tick n : Nat} (ht : tick < 48) (hn : n < 48) (h : bkI P tick n) (h0 : P ((tick + 48 - n) % 48) = 0) : bkI P tick (n + 1) := by
  unfold bkI at h ⊢
  by_cases q : n ≤ tick
  · rw [if_pos q] at h
    rw [show (tick + 48 - n) % 48 = tick - n by omega] at h0
    have e : back P (tick + 1 - n) = back P (tick - n) := by rw [show tick + 1 - n = (tick - n) + 1 by omega]; simp [back, h0]
    by_cases q2 : n + 1 ≤ tick
    · rw [if_pos q2, h, e]; congr 1; omega
    · rw [if_neg q2]
      refine ⟨?_, ?_⟩
      · rw [h, e, show tick - n = 0 by omega]; rfl
      · congr 1; omega
  · rw [if_neg q] at h
    rw [if_neg (by omega)]
    refine ⟨h.1, ?_⟩
    rw [show (tick + 48 - n) % 48 = tick + 48 - n by omega] at h0
    rw [h.2, show tick + 49 - n = (tick + 48 - n) + 1 by omega, show tick + 49 - (n + 1) = tick + 48 - n by omega]
    simp [back, h0]
theorem bkI_f {P : Nat → Int32} {tick n : Nat} (ht : tick < 48) (hn : n < 48) (h : bkI P tick n) (h0 : ¬ P ((tick + 48 - n) % 48) = 0) : told P tick = P ((tick + 48 - n) % 48) := by
  unfold bkI at h
  by_cases q : n ≤ tick
  · rw [if_pos q] at h
    rw [show (tick + 48 - n) % 48 = tick - n by omega] at h0 ⊢
    have e : back P (tick + 1 - n) = P (tick - n) := by rw [show tick + 1 - n = (tick - n) + 1 by omega]; simp [back, h0]
    unfold told
    rw [h, e, if_neg h0]
  · rw [if_neg q] at h
    rw [show (tick + 48 - n) % 48 = tick + 48 - n by omega] at h0 ⊢
    have e : back P (tick + 49 - n) = P (tick + 48 - n) := by rw [show tick + 49 - n = (tick + 48 - n) + 1 by omega]; simp [back, h0]
    unfold told
    rw [if_pos h.1, h.2, e, if_neg h0]
theorem bkI_e {P : Nat → Int32} {tick : Nat} (ht : tick < 48) (h : bkI P tick 48) : told P tick = 200 := by
  unfold bkI at h
  rw [if_neg (by omega)] at h
  unfold told
  rw [if_pos h.1, h.2, show tick + 49 - 48 = tick + 1 by omega, if_pos h.1]
theorem lp_toldFor {R : Room} {Q : ab_Q} {k z n i tick : Nat} {S : SS} (hRR : ab_fit R 1 3 0 0 k z) (hn : 279 ≤ n) (hi : i < 6) (hP : PT (pg (row S) i)) (ht : tick < 48) (hQ : Q (.inl (some (.int (told (pg (row S) i) tick)))) k z n (Hp S)) :
    ∀ (m j : Nat) (l4 : Option Value), j + m = 48 → bkI (pg (row S) i) tick j → WA RX7 cX7_toldFor 5 [] R Q k z 2 [some (.ref 267), some (.int (nI i)), some (.int (nI tick)), some (.int (nI j)), l4] [] n (Hp S) := by
  intro m
  induction m with
  | zero =>
    intro j l4 hj hb
    have hj48 : j = 48 := by omega
    subst hj48
    rw [bkI_e ht hb] at hQ
    refine wa_iload_n dX7_toldFor_2 rfl ?_
    refine wa_bipush (x := 48) dX7_toldFor_3 (by decide) ?_
    refine wa_icmp_ge 43 dX7_toldFor_5 rfl (fun c5 => ?_) (fun c5 => absurd (nI_le (Nat.le_refl 48) (by decide)) c5)
    refine wa_sipush (x := 200) dX7_toldFor_43 (by decide) ?_
    exact wa_ireturn dX7_toldFor_46 hQ
  | succ m ih =>
    intro j l4 hj hb
    have e1 : nI tick - nI j + 48 = nI (tick + 48 - j) := by
      apply Int32.toInt_inj.mp
      have a1 : (nI tick).toInt = (tick : Int) := nI_toInt (by omega)
      have a2 : (nI j).toInt = (j : Int) := nI_toInt (by omega)
      have a3 : (48 : Int32).toInt = 48 := by decide
      have a4 : (nI tick - nI j).toInt = (tick : Int) - j := by rw [i_sub (by omega) (by omega), a1, a2]
      rw [i_add (by omega) (by omega), a4, a3, nI_toInt (by omega)]
      omega
    have e2 : nI (tick + 48 - j) - nI (tick + 48 - j) / 48 * 48 = nI ((tick + 48 - j) % 48) := nI_rem (by omega) (by decide) (by decide)
    have e3 : (tick + 48 - j) % 48 < 48 := Nat.mod_lt _ (by decide)
    have e4 : S.1 (mr S) (71 + 66 * i + (18 + (tick + 48 - j) % 48)) = pg (row S) i ((tick + 48 - j) % 48) := pg_at e3
    refine wa_iload_n dX7_toldFor_2 rfl ?_
    refine wa_bipush (x := 48) dX7_toldFor_3 (by decide) ?_
    refine wa_icmp_ge 43 dX7_toldFor_5 rfl (fun c5 => absurd c5 (nI_ge (a := j) (b := 48) (by omega) (by decide))) (fun c5 => ?_)
    refine wa_iload_n dX7_toldFor_8 rfl ?_
    refine wa_iload_n dX7_toldFor_9 rfl ?_
    refine wa_isub dX7_toldFor_10 ?_
    refine wa_bipush (x := 48) dX7_toldFor_11 (by decide) ?_
    refine wa_iadd dX7_toldFor_13 ?_
    rw [e1]
    refine wa_bipush (x := 48) dX7_toldFor_14 (by decide) ?_
    refine wa_irem dX7_toldFor_16 (by decide) ?_
    rw [e2]
    refine wa_istore dX7_toldFor_17 rfl ?_
    refine wa_aload_n dX7_toldFor_19 rfl ?_
    refine wa_iload_n dX7_toldFor_20 rfl ?_
    refine wa_iload dX7_toldFor_21 rfl ?_
    refine c_VI dX7_toldFor_23 (mm_programAt (by assumption) hi e3) lk_X7_72 rfl (isO_MO _ _ _) rfl (ltS (by assumption)) ?_ (hR := hRR)
    rw [e4]
    refine wa_if_le 37 dX7_toldFor_26 rfl (fun c26 => ?_) (fun c26 => ?_)
    · refine wa_iinc (y := 1) dX7_toldFor_37 rfl (by decide) rfl ?_
      refine wa_goto 2 dX7_toldFor_40 rfl ?_
      rw [nI_1 j]
      exact ih (j + 1) _ (by omega) (bkI_s ht (by omega) hb (Classical.byContradiction (fun z => absurd ((hP.pos _).mpr z) (Int32.not_lt.mpr c26))))
    · refine wa_aload_n dX7_toldFor_29 rfl ?_
      refine wa_iload_n dX7_toldFor_30 rfl ?_
      refine wa_iload dX7_toldFor_31 rfl ?_
      refine c_VI dX7_toldFor_33 (mm_programAt (by assumption) hi e3) lk_X7_72 rfl (isO_MO _ _ _) rfl (ltS (by assumption)) ?_ (hR := hRR)
      rw [e4]
      have h0 := (hP.pos ((tick + 48 - j) % 48)).mp (Int32.not_le.mp c26)
      rw [bkI_f ht (by omega) hb h0] at hQ
      exact wa_ireturn dX7_toldFor_36 hQ
theorem mm_toldFor {n i tick : Nat} {S : SS} (hn : 279 ≤ n) (hi : i < 6) (hP : PT (pg (row S) i)) (ht : tick < 48) : AM yX7_toldFor cX7_toldFor 5 (some .int) [] 2 0 0 [.ref 267, .int (nI i), .int (nI tick)] n (Hp S) (PI (told (pg (row S) i) tick) n S) := by
  intro has
  change WA RX7 cX7_toldFor 5 [] _ _ 0 0 0 [some (.ref 267), some (.int (nI i)), some (.int (nI tick)), none, none] [] n _
  refine wa_iconst (x := 0) dX7_toldFor_0 (by decide) ?_
  refine wa_istore_n dX7_toldFor_1 rfl ?_
  exact lp_toldFor (by unfold ab_fit ab_rm; decide) hn hi hP ht ⟨Nat.le_refl _, Nat.le_refl _, ⟨_, rfl, rfl⟩, rfl, rfl, rfl⟩ 48 0 _ (by omega) bkI_0
theorem mm_targetOf {n i : Nat} {S : SS} (hn : 279 ≤ n) (hi : i < 6) (hP : PT (pg (row S) i)) (ht : 0 ≤ (row S 1).toInt) : AM yX7_targetOf cX7_targetOf 3 (some .int) [] 3 0 0 [.ref 267, .int (nI i)] n (Hp S) (PI (tgt (row S) i) n S) := by
  intro has
  change WA RX7 cX7_targetOf 3 [] _ _ 0 0 0 [some (.ref 267), some (.int (nI i)), none] [] n _
  refine wa_aload_n dX7_targetOf_0 rfl ?_
  refine wa_iload_n dX7_targetOf_1 rfl ?_
  refine wa_bipush (x := 9) dX7_targetOf_2 (by decide) ?_
  refine c_VI dX7_targetOf_4 (mm_of2 (w := 9) (by assumption) hi (by decide)) lk_X7_68 rfl (isO_MO _ _ _) rfl (ltS (by assumption)) ?_
  refine wa_if_le 18 dX7_targetOf_7 rfl (fun c7 => ?_) (fun c7 => ?_)
  · refine wa_aload_n dX7_targetOf_18 rfl ?_
    refine wa_iload_n dX7_targetOf_19 rfl ?_
    refine wa_bipush (x := 6) dX7_targetOf_20 (by decide) ?_
    refine c_VI dX7_targetOf_22 (mm_of2 (w := 6) (by assumption) hi (by decide)) lk_X7_68 rfl (isO_MO _ _ _) rfl (ltS (by assumption)) ?_
    refine wa_iconst (x := 1) dX7_targetOf_25 (by decide) ?_
    refine wa_icmp_ne 33 dX7_targetOf_26 rfl (fun c26 => ?_) (fun c26 => ?_)
    · refine wa_aload_n dX7_targetOf_33 rfl ?_
      refine g_row (by assumption) dX7_targetOf_34 fl_X7_24 ?_
      refine wa_bipush (x := 6) dX7_targetOf_37 (by decide) ?_
      refine s_iald (j := 6) isA_mr dX7_targetOf_39 (lt_mr (by assumption)) rfl (by decide) ?_
      refine wa_istore_n dX7_targetOf_40 rfl ?_
      refine wa_aload_n dX7_targetOf_41 rfl ?_
      refine wa_iload_n dX7_targetOf_42 rfl ?_
      refine wa_aload_n dX7_targetOf_43 rfl ?_
      refine g_row (by assumption) dX7_targetOf_44 fl_X7_24 ?_
      refine wa_iconst (x := 1) dX7_targetOf_47 (by decide) ?_
      refine s_iald (j := 1) isA_mr dX7_targetOf_48 (lt_mr (by assumption)) rfl (by decide) ?_
      refine wa_bipush (x := 48) dX7_targetOf_49 (by decide) ?_
      refine wa_irem dX7_targetOf_51 (by decide) ?_
      rw [show S.1 (mr S) 1 - S.1 (mr S) 1 / 48 * 48 = nI (tod (row S)) from rem48 ht]
      refine c_VI dX7_targetOf_52 (mm_toldFor (by assumption) hi hP (Nat.mod_lt _ (by decide))) lk_X7_75 rfl (isO_MO _ _ _) rfl (ltS (by assumption)) ?_
      refine wa_iload_n dX7_targetOf_55 rfl ?_
      refine wa_isub dX7_targetOf_56 ?_
      exact wa_ireturn dX7_targetOf_57 ⟨Nat.le_refl _, Nat.le_refl _, ⟨_, rfl, rfl⟩, (by unfold tgt; rw [if_neg (Int32.not_lt.mpr c7)]; first | (rw [if_pos c26]; rfl) | (rw [if_neg c26]; rfl)), rfl, rfl⟩
    · refine wa_iconst (x := 0) dX7_targetOf_29 (by decide) ?_
      refine wa_goto 40 dX7_targetOf_30 rfl ?_
      refine wa_istore_n dX7_targetOf_40 rfl ?_
      refine wa_aload_n dX7_targetOf_41 rfl ?_
      refine wa_iload_n dX7_targetOf_42 rfl ?_
      refine wa_aload_n dX7_targetOf_43 rfl ?_
      refine g_row (by assumption) dX7_targetOf_44 fl_X7_24 ?_
      refine wa_iconst (x := 1) dX7_targetOf_47 (by decide) ?_
      refine s_iald (j := 1) isA_mr dX7_targetOf_48 (lt_mr (by assumption)) rfl (by decide) ?_
      refine wa_bipush (x := 48) dX7_targetOf_49 (by decide) ?_
      refine wa_irem dX7_targetOf_51 (by decide) ?_
      rw [show S.1 (mr S) 1 - S.1 (mr S) 1 / 48 * 48 = nI (tod (row S)) from rem48 ht]
      refine c_VI dX7_targetOf_52 (mm_toldFor (by assumption) hi hP (Nat.mod_lt _ (by decide))) lk_X7_75 rfl (isO_MO _ _ _) rfl (ltS (by assumption)) ?_
      refine wa_iload_n dX7_targetOf_55 rfl ?_
      refine wa_isub dX7_targetOf_56 ?_
      exact wa_ireturn dX7_targetOf_57 ⟨Nat.le_refl _, Nat.le_refl _, ⟨_, rfl, rfl⟩, (by unfold tgt; rw [if_neg (Int32.not_lt.mpr c7)]; first | (rw [if_pos c26]; rfl) | (rw [if_neg c26]; rfl)), rfl, rfl⟩
  · refine wa_aload_n dX7_targetOf_10 rfl ?_
    refine wa_iload_n dX7_targetOf_11 rfl ?_
    refine wa_bipush (x := 8) dX7_targetOf_12 (by decide) ?_
    refine c_VI dX7_targetOf_14 (mm_of2 (w := 8) (by assumption) hi (by decide)) lk_X7_68 rfl (isO_MO _ _ _) rfl (ltS (by assumption)) ?_
    exact wa_ireturn dX7_targetOf_17 ⟨Nat.le_refl _, Nat.le_refl _, ⟨_, rfl, rfl⟩, (by unfold tgt; rw [if_pos (Int32.not_le.mp c7)]), rfl, rfl⟩
