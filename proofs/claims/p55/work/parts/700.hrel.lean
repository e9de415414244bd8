/-! The class's House and rooms against the reference's row. Written by program (wip/whole/gen/m700.py) but for the heads. -/
/-- where a number of a House stands in the row -/
def hm (j : Nat) : Nat := match j with
  | 0 => 1
  | 1 => 2
  | 2 => 4
  | 3 => 5
  | 4 => 6
  | 5 => 7
  | 6 => 8
  | 7 => 9
  | 8 => 10
  | 9 => 0
  | _ => 3
theorem hm_lt (j : Nat) : hm j < 11 := by
  unfold hm
  split <;> decide
/-- the House's own numbers; a room's numbers, its counts -/
def HDn (S : SS) (a : Nat) (g : Nat → Int32) : Prop := ∀ j, j < 12 → ¬ j = 10 → S.1 a j = g (hm j)
def RN (S : SS) (r : Nat) (g : Nat → Int32) (i : Nat) : Prop := ∀ w, w < 11 → S.1 r (w + 1) = of g i w
def RC (S : SS) (r : Nat) (g : Nat → Int32) (i : Nat) : Prop := ∀ c, c < 6 → S.1 (r + 1) c = of g i (12 + c)
def RR (S : SS) (r : Nat) (g : Nat → Int32) (i : Nat) : Prop := RN S r g i ∧ RC S r g i ∧ RP S r (pg g i)
/-- what a room's life leaves as it was -/
def FRr (r : Nat) (S0 S : SS) : Prop := S.2 = S0.2 ∧ (∀ k, ¬ k = r → ¬ k = r + 1 → S.1 k = S0.1 k) ∧ S.1 r 14 = S0.1 r 14
/-- a room that lives in a House, since S0 -/
def LV (S0 S : SS) (a r : Nat) (g : Nat → Int32) (i : Nat) : Prop := isH a ∧ isR r ∧ (¬ a = r ∧ ¬ a = r + 1) ∧ FRr r S0 S ∧ HDn S a g ∧ RR S r g i
theorem pg_pt (g : Nat → Int32) (i : Nat) {w : Nat} (x : Int32) (hw : w < 18) (i' : Nat) : pg (pt g i w x) i' = pg g i' := (kp_pt g i x hw).1 i'
theorem LV.put {S0 S : SS} {a r i : Nat} {g : Nat → Int32} (h : LV S0 S a r g i) {w : Nat} (hw : w < 11) (x : Int32) : LV S0 (ss S r (w + 1) x) a r (pt g i w x) i := by
  obtain ⟨h1, h2, h3, ⟨f1, f2, f3⟩, h4, h5, h6, h7, h8, h9⟩ := h
  refine ⟨h1, h2, h3, ⟨f1, fun k k1 k2 => (if_neg k1).trans (f2 k k1 k2), ?_⟩, fun j hj hj2 => ?_, fun w' hw' => ?_, fun c hc => ?_, ?_⟩
  · show (ss S r (w + 1) x).1 r 14 = _
    rw [ss_1, if_neg (by omega)]; exact f3
  · rw [ss_1, if_neg (by omega), pt_lo _ _ (by have := hm_lt j; omega)]
    exact h4 j hj hj2
  · rw [ss_1, of_pt _ _ (by omega) (by omega)]
    by_cases he : w' = w
    · rw [if_pos ⟨rfl, by omega⟩, if_pos ⟨rfl, he⟩]
    · rw [if_neg (by omega), if_neg (by omega)]; exact h5 w' hw'
  · rw [ss_1, if_neg (by omega), of_pt _ _ (by omega) (by omega), if_neg (by omega)]
    exact h6 c hc
  · rw [pg_pt _ _ _ (by omega)]
    refine ⟨h7, ?_, fun t ht h0 => ?_⟩
    · rw [ss_1, if_neg (by omega)]; exact h8
    · rw [ss_1, if_neg (by omega)]; exact h9 t ht h0
theorem LV.cnt {S0 S : SS} {a r i : Nat} {g : Nat → Int32} (h : LV S0 S a r g i) {c : Nat} (hc : c < 6) (x : Int32) : LV S0 (ss S (r + 1) c x) a r (pt g i (12 + c) x) i := by
  obtain ⟨h1, h2, h3, ⟨f1, f2, f3⟩, h4, h5, h6, h7, h8, h9⟩ := h
  refine ⟨h1, h2, h3, ⟨f1, fun k k1 k2 => (if_neg k2).trans (f2 k k1 k2), ?_⟩, fun j hj hj2 => ?_, fun w' hw' => ?_, fun c' hc' => ?_, ?_⟩
  · show (ss S (r + 1) c x).1 r 14 = _
    rw [ss_1, if_neg (by omega)]; exact f3
  · rw [ss_1, if_neg (by omega), pt_lo _ _ (by have := hm_lt j; omega)]
    exact h4 j hj hj2
  · rw [ss_1, if_neg (by omega), of_pt _ _ (by omega) (by omega), if_neg (by omega)]
    exact h5 w' hw'
  · rw [ss_1, of_pt _ _ (by omega) (by omega)]
    by_cases he : c' = c
    · rw [if_pos ⟨rfl, he⟩, if_pos ⟨rfl, by omega⟩]
    · rw [if_neg (by omega), if_neg (by omega)]; exact h6 c' hc'
  · rw [pg_pt _ _ _ (by omega)]
    refine ⟨h7, ?_, fun t ht h0 => ?_⟩
    · rw [ss_1, if_neg (by omega)]; exact h8
    · rw [ss_1, if_neg (by omega)]; exact h9 t ht h0
theorem LV.hd {S0 S : SS} {a r i : Nat} {g : Nat → Int32} (h : LV S0 S a r g i) {j : Nat} (hj : j < 12) (hj2 : ¬ j = 10) : S.1 a j = g (hm j) := h.2.2.2.2.1 j hj hj2
theorem LV.n {S0 S : SS} {a r i : Nat} {g : Nat → Int32} (h : LV S0 S a r g i) {w : Nat} (hw : w < 11) : S.1 r (w + 1) = of g i w := h.2.2.2.2.2.1 w hw
theorem LV.c {S0 S : SS} {a r i : Nat} {g : Nat → Int32} (h : LV S0 S a r g i) {c : Nat} (hc : c < 6) : S.1 (r + 1) c = of g i (12 + c) := h.2.2.2.2.2.2.1 c hc
theorem LV.rp {S0 S : SS} {a r i : Nat} {g : Nat → Int32} (h : LV S0 S a r g i) : RP S r (pg g i) := h.2.2.2.2.2.2.2
theorem LV.H {S0 S : SS} {a r i : Nat} {g : Nat → Int32} (h : LV S0 S a r g i) : isH a := h.1
theorem LV.R {S0 S : SS} {a r i : Nat} {g : Nat → Int32} (h : LV S0 S a r g i) : isR r := h.2.1
section LL
variable {own : String} {cc : ByteArray} {nL : Nat} {hh : List (Nat × Nat × Nat × Nat)} {R : Room} {Q : ab_Q} {k z pc : Nat} {ls : List (Option Value)} {st : List Value} {n : Nat} {S0 S : SS} {a r i : Nat} {g : Nat → Int32}
/-- reads and writes, the state behind a write known by LV alone -/
theorem L_hd {index : Nat} (h : LV S0 S a r g i) (hn : 269 ≤ n) (j : Nat) (d : decode cc pc = .ok (.getfield index, 3)) (fl : Cond.fieldLink own index (TX1 j).1 (TX1 j).2.1 (TX1 j).2.2.1 ∈ ab_big) (hj : j < 12) (hj2 : ¬ j = 10) (hv : ∀ f w Rr, (ly_HO a f w Rr)[j]? = some (.int (f j)))
    (K : WA own cc nL hh R Q k z (pc + 3) ls (.int (g (hm j)) :: st) n (Hp S)) : WA own cc nL hh R Q k z pc ls (.ref a :: st) n (Hp S) := by
  refine g_HO h.H hn j d fl (by omega) (hv _ _ _) ?_
  rw [h.hd hj hj2]
  exact K
theorem L_n {index : Nat} (h : LV S0 S a r g i) (hn : 269 ≤ n) (w : Nat) (d : decode cc pc = .ok (.getfield index, 3)) (fl : Cond.fieldLink own index (TX4 (w + 1)).1 (TX4 (w + 1)).2.1 (TX4 (w + 1)).2.2.1 ∈ ab_big) (hw : w < 11) (hv : ∀ f w' Rr, (ly_RO r f w' Rr)[w + 1]? = some (.int (f (w + 1))))
    (K : WA own cc nL hh R Q k z (pc + 3) ls (.int (of g i w) :: st) n (Hp S)) : WA own cc nL hh R Q k z pc ls (.ref r :: st) n (Hp S) := by
  refine g_RO h.R hn (w + 1) d fl (by omega) (hv _ _ _) ?_
  rw [h.n hw]
  exact K
theorem L_put {index : Nat} {x : Int32} {ty : FieldType} (h : LV S0 S a r g i) (hn : 269 ≤ n) (w : Nat) (d : decode cc pc = .ok (.putfield index, 3)) (fl : Cond.fieldLink own index (TX4 (w + 1)).1 (TX4 (w + 1)).2.1 (TX4 (w + 1)).2.2.1 ∈ ab_big) (hw : w < 11) (hfin : (TX4 (w + 1)).2.2.2 = false) (hd : parseFieldDescriptor (TX4 (w + 1)).2.2.1 = some ty) (hnr : narrow ty (.int x) = .int x) (hfit : fits ty (.int x) = true)
    (hset : ∀ f w' Rr, (ly_RO r f w' Rr).set (w + 1) (.int x) = ly_RO r (upd f (w + 1) x) w' Rr)
    (K : ∀ S', LV S0 S' a r (pt g i w x) i → WA own cc nL hh R Q k z (pc + 3) ls st n (Hp S')) : WA own cc nL hh R Q k z pc ls (.int x :: .ref r :: st) n (Hp S) :=
  p_RO h.R hn (w + 1) d fl (by omega) hfin hd hnr hfit hset (by show w + 1 < 15; omega) (K _ (h.put hw x))
theorem L_cld (h : LV S0 S a r g i) (hn : 269 ≤ n) (c : Nat) {x : Int32} (hx : x.toInt = (c : Int)) (hc : c < 6) (d : decode cc pc = .ok (.iaload, 1)) (K : WA own cc nL hh R Q k z (pc + 1) ls (.int (of g i (12 + c)) :: st) n (Hp S)) : WA own cc nL hh R Q k z pc ls (.int x :: .ref (r + 1) :: st) n (Hp S) := by
  refine s_iald (j := c) h.R.cnt d (lt_R1 h.R hn) hx hc ?_
  rw [h.c hc]
  exact K
theorem L_cst (h : LV S0 S a r g i) (hn : 269 ≤ n) (c : Nat) {x v : Int32} (hx : x.toInt = (c : Int)) (hc : c < 6) (d : decode cc pc = .ok (.iastore, 1)) (K : ∀ S', LV S0 S' a r (pt g i (12 + c) v) i → WA own cc nL hh R Q k z (pc + 1) ls st n (Hp S')) : WA own cc nL hh R Q k z pc ls (.int v :: .int x :: .ref (r + 1) :: st) n (Hp S) :=
  s_iast (j := c) h.R.cnt d (lt_R1 h.R hn) hx hc (K _ (h.cnt hc v))
end LL
/-- what the numbers of a room must be, that class and reference go alike -/
def RG (g : Nat → Int32) (i : Nat) : Prop := (0 ≤ (of g i 1).toInt ∧ (of g i 1).toInt ≤ 100) ∧ 0 ≤ (of g i 2).toInt ∧ (of g i 5 = 0 ∨ of g i 5 = 1) ∧ (of g i 6 = 0 ∨ of g i 6 = 1)
def OV (g : Nat → Int32) (i : Nat) : Prop := -2147483648 ≤ (g 8).toInt * (mis g i).toInt ∧ (g 8).toInt * (mis g i).toInt ≤ 2147483647
theorem i_min_i (x y : Int32) : (i_min x y).toInt = min x.toInt y.toInt := by
  unfold i_min
  split
  · rename_i h; rw [Int32.lt_iff_toInt_lt] at h; omega
  · rename_i h; rw [Int32.lt_iff_toInt_lt] at h; omega
theorem i_max_i (x y : Int32) : (i_max x y).toInt = max x.toInt y.toInt := by
  unfold i_max
  split
  · rename_i h; rw [Int32.lt_iff_toInt_lt] at h; omega
  · rename_i h; rw [Int32.lt_iff_toInt_lt] at h; omega
theorem iabs_i {x : Int32} (h : -2147483648 < x.toInt) : (i_abs x).toInt = x.toInt.natAbs := by
  have h2 := x.toInt_lt
  rw [iabs_nI h, nI_toInt (by omega)]
theorem i_neg {x : Int32} (h : -2147483648 < x.toInt) : (-x).toInt = -x.toInt := by
  have h2 := x.toInt_lt
  rw [Int32.toInt_neg]
  exact Int.bmod_eq_of_le (by omega) (by omega)
/-- the steps of a drive -/
theorem drs_i {g : Nat → Int32} {i : Nat} {to most : Int32} (h : RG g i) (ht : 0 ≤ to.toInt ∧ to.toInt ≤ 100) (hm : 0 ≤ most.toInt) : (drs g i to most).toInt = min (min ((to.toInt - (of g i 1).toInt).natAbs : Int) most.toInt) (of g i 2).toInt ∧ 0 ≤ (drs g i to most).toInt := by
  have e : (to - of g i 1).toInt = to.toInt - (of g i 1).toInt := i_sub (by have := h.1; omega) (by have := h.1; omega)
  have h1 := h.1
  have h2 := h.2.1
  unfold drs
  rw [i_min_i, i_min_i, iabs_i (by omega), e]
  omega
theorem drive_sgn {g : Nat → Int32} {i : Nat} {to most : Int32} (h : RG g i) (ht : 0 ≤ to.toInt ∧ to.toInt ≤ 100) (hm : 0 ≤ most.toInt) : (if of g i 1 < to then drs g i to most else -drs g i to most) = if to < of g i 1 then -drs g i to most else drs g i to most := by
  by_cases h1 : of g i 1 < to
  · rw [if_pos h1, if_neg (fun z => by rw [Int32.lt_iff_toInt_lt] at h1 z; omega)]
  · rw [if_neg h1]
    by_cases h2 : to < of g i 1
    · rw [if_pos h2]
    · rw [if_neg h2]
      have e := (drs_i h ht hm).1
      rw [Int32.lt_iff_toInt_lt] at h1 h2
      have h3 := h.2.1
      have e0 : drs g i to most = 0 := Int32.toInt_inj.mp (by rw [e, Int32.toInt_zero]; omega)
      rw [e0]; decide
theorem RG_drive {g : Nat → Int32} {i : Nat} {to most : Int32} (h : RG g i) (ht : 0 ≤ to.toInt ∧ to.toInt ≤ 100) (hm : 0 ≤ most.toInt) : RG (f_drive i to most g) i := by
  obtain ⟨e, e0⟩ := drs_i h ht hm
  have h1 := h.1
  have h2 := h.2.1
  have h3 := (of g i 2).toInt_lt
  have a1 : of (f_drive i to most g) i 1 = of g i 1 + if to < of g i 1 then -drs g i to most else drs g i to most := by
    unfold f_drive
    rw [of_ad _ _ (by decide) (by decide), if_neg (by omega), of_ad _ _ (by decide) (by decide), if_neg (by omega), of_ad _ _ (by decide) (by decide), if_pos ⟨rfl, rfl⟩]
  have a2 : of (f_drive i to most g) i 2 = of g i 2 + -drs g i to most := by
    unfold f_drive
    rw [of_ad _ _ (by decide) (by decide), if_neg (by omega), of_ad _ _ (by decide) (by decide), if_pos ⟨rfl, rfl⟩, of_ad _ _ (by decide) (by decide), if_neg (by omega)]
  have ax : ∀ w, w < 12 → ¬ w = 1 → ¬ w = 2 → of (f_drive i to most g) i w = of g i w := fun w w0 w1 w2 => by
    unfold f_drive
    rw [of_ad _ _ (by decide) (by omega), if_neg (by omega), of_ad _ _ (by decide) (by omega), if_neg (by omega), of_ad _ _ (by decide) (by omega), if_neg (by omega)]
  have hneg : (-drs g i to most).toInt = -(drs g i to most).toInt := i_neg (by omega)
  refine ⟨?_, ?_, by rw [ax 5 (by decide) (by decide) (by decide)]; exact h.2.2.1, by rw [ax 6 (by decide) (by decide) (by decide)]; exact h.2.2.2⟩
  · rw [a1]
    by_cases hc : to < of g i 1
    · rw [if_pos hc, i_add (by rw [hneg]; omega) (by rw [hneg]; omega), hneg]
      rw [Int32.lt_iff_toInt_lt] at hc
      omega
    · rw [if_neg hc, i_add (by omega) (by omega)]
      rw [Int32.lt_iff_toInt_lt] at hc
      omega
  · rw [a2, i_add (by rw [hneg]; omega) (by rw [hneg]; omega), hneg]
    omega
theorem LV.drive {S0 S : SS} {a r i : Nat} {g : Nat → Int32} (h : LV S0 S a r g i) (hg : RG g i) {to most : Int32} (ht : 0 ≤ to.toInt ∧ to.toInt ≤ 100) (hm : 0 ≤ most.toInt) : drN S r to most = drs g i to most ∧ LV S0 (drS S r to most) a r (f_drive i to most g) i := by
  have e1 : S.1 r 2 = of g i 1 := h.n (w := 1) (by decide)
  have e2 : S.1 r 3 = of g i 2 := h.n (w := 2) (by decide)
  have e3 : S.1 (r + 1) 0 = of g i 12 := h.c (c := 0) (by decide)
  have eN : drN S r to most = drs g i to most := by
    unfold drN drs
    rw [e1, e2]
  refine ⟨eN, ?_⟩
  unfold drS f_drive
  rw [eN, e1, e2, e3, drive_sgn hg ht hm]
  have k1 := h.put (w := 1) (by decide) (of g i 1 + if to < of g i 1 then -drs g i to most else drs g i to most)
  have k2 := k1.put (w := 2) (by decide) (of g i 2 - drs g i to most)
  have k3 := k2.cnt (c := 0) (by decide) (of g i 12 + drs g i to most)
  have q2 : of (ad g i 1 (if to < of g i 1 then -drs g i to most else drs g i to most)) i 2 = of g i 2 := by
    rw [of_ad _ _ (by decide) (by decide), if_neg (by omega)]
  have q3 : of (ad (ad g i 1 (if to < of g i 1 then -drs g i to most else drs g i to most)) i 2 (-drs g i to most)) i 12 = of g i 12 := by
    rw [of_ad _ _ (by decide) (by decide), if_neg (by omega), of_ad _ _ (by decide) (by decide), if_neg (by omega)]
  have eA : ad (ad (ad g i 1 (if to < of g i 1 then -drs g i to most else drs g i to most)) i 2 (-drs g i to most)) i 12 (drs g i to most) = pt (pt (pt g i 1 (of g i 1 + if to < of g i 1 then -drs g i to most else drs g i to most)) i 2 (of g i 2 - drs g i to most)) i (12 + 0) (of g i 12 + drs g i to most) := by
    show pt (pt (pt g i 1 _) i 2 (of (ad g i 1 _) i 2 + _)) i 12 (of (ad (ad g i 1 _) i 2 _) i 12 + _) = _
    rw [q2, q3, Int32.sub_eq_add_neg]
  rw [eA]
  exact k3

