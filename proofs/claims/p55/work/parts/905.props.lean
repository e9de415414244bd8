/-! WHAT THE LAW ASKS OF A STATE, AS NUMBERS: battery, steps and valve; window mode; plans; a tick. -/
theorem i_ne1 (x : Int32) : ¬ x = x + 1 := fun h => by
  have e := add_sub_l x 1
  rw [← h, Int32.sub_self] at e
  exact absurd e (by decide)
/-- window mode, ticks whose wish was not met, ticks without power -/
def EXr (h t : Int) (v : Nat → Int32) : Prop := (0 ≤ (v 7).toInt ∧ (v 7).toInt ≤ h) ∧ (0 ≤ (v 16).toInt ∧ (v 16).toInt ≤ t) ∧ (0 ≤ (v 17).toInt ∧ (v 17).toInt ≤ t)
def EX (g : Nat → Int32) : Prop := ∀ i, i < rn g → EXr (g 5).toInt (g 1).toInt (of g i)
/-- plans lie ahead, by their times -/
def PLS (g : Nat → Int32) : Prop := (∀ k, k < pn g → (g 1).toInt < (g (11 + 3 * k)).toInt) ∧ ∀ k, k + 1 < pn g → (g (11 + 3 * k)).toInt ≤ (g (11 + 3 * (k + 1))).toInt
def JJ (g : Nat → Int32) : Prop := GG (g 1).toInt g ∧ EX g ∧ PLS g
theorem EXr.cg {h t : Int} {v v' : Nat → Int32} (q : EXr h t v) (h7 : v' 7 = v 7) (h16 : v' 16 = v 16) (h17 : v' 17 = v 17) : EXr h t v' := by
  unfold EXr
  rw [h7, h16, h17]
  exact q
/-- what a room's battery, steps and valve do together -/
def BS (v v' : Nat → Int32) : Prop := 0 ≤ (v' 2).toInt ∧ (v' 2).toInt ≤ (v 2).toInt ∧ v' 2 + (v' 12 - v 12) = v 2 ∧ ((v 2).toInt = 0 → v' 1 = v 1)
theorem BS.rf {v : Nat → Int32} (h : 0 ≤ (v 2).toInt) : BS v v := ⟨h, Int.le_refl _, by rw [Int32.sub_self, Int32.add_zero], fun _ => rfl⟩
theorem BS.tr {a b c : Nat → Int32} (h1 : BS a b) (h2 : BS b c) : BS a c := by
  obtain ⟨a1, a2, a3, a4⟩ := h1
  obtain ⟨b1, b2, b3, b4⟩ := h2
  refine ⟨b1, by omega, ?_, fun z => (b4 (by omega)).trans (a4 z)⟩
  have e : c 12 - a 12 = (c 12 - b 12) + (b 12 - a 12) := by rw [Int32.add_comm, sub_tel]
  rw [e, ← Int32.add_assoc, b3, a3]
theorem BS.cg {v v' w' : Nat → Int32} (h : BS v v') (h1 : w' 1 = v' 1) (h2 : w' 2 = v' 2) (h12 : w' 12 = v' 12) : BS v w' := by
  unfold BS
  rw [h1, h2, h12]
  exact h
theorem BS.cg0 {v v' w : Nat → Int32} (h : BS v v') (h1 : w 1 = v 1) (h2 : w 2 = v 2) (h12 : w 12 = v 12) : BS w v' := by
  unfold BS
  rw [h1, h2, h12]
  exact h
/-- the steps: not less than none, and what the battery lacks -/
theorem BS.more {v v' : Nat → Int32} (h : BS v v') : 0 ≤ (v' 12 - v 12).toInt ∧ v' 2 = v 2 - (v' 12 - v 12) := by
  obtain ⟨h1, h2, h3, -⟩ := h
  have h4 := (v 2).toInt_lt
  have e : v' 12 - v 12 = v 2 - v' 2 := by rw [← h3, add_sub_l]
  refine ⟨by rw [e, i_sub (by omega) (by omega)]; omega, ?_⟩
  rw [← h3, Int32.add_sub_cancel]
theorem drive_w (g : Nat → Int32) (i : Nat) (to most : Int32) {w : Nat} (hw : w < 66) (h1 : ¬ w = 1) (h2 : ¬ w = 2) (h12 : ¬ w = 12) : of (f_drive i to most g) i w = of g i w := by
  unfold f_drive
  rw [of_ad _ _ (by decide) hw, if_neg (by omega), of_ad _ _ (by decide) hw, if_neg (by omega), of_ad _ _ (by decide) hw, if_neg (by omega)]
theorem BS_drive {g : Nat → Int32} {i : Nat} {to most : Int32} (h : RG g i) (ht : 0 ≤ to.toInt ∧ to.toInt ≤ 100) (hm : 0 ≤ most.toInt) : BS (of g i) (of (f_drive i to most g) i) := by
  obtain ⟨e, e0⟩ := drs_i h ht hm
  have h2 := h.2.1
  have h3 := (of g i 2).toInt_lt
  have a1 : of (f_drive i to most g) i 1 = of g i 1 + if to < of g i 1 then -drs g i to most else drs g i to most := by
    unfold f_drive
    rw [of_ad _ _ (by decide) (by decide), if_neg (by omega), of_ad _ _ (by decide) (by decide), if_neg (by omega), of_ad _ _ (by decide) (by decide), if_pos ⟨rfl, rfl⟩]
  have a2 : of (f_drive i to most g) i 2 = of g i 2 + -drs g i to most := by
    unfold f_drive
    rw [of_ad _ _ (by decide) (by decide), if_neg (by omega), of_ad _ _ (by decide) (by decide), if_pos ⟨rfl, rfl⟩, of_ad _ _ (by decide) (by decide), if_neg (by omega)]
  have hneg : (-drs g i to most).toInt = -(drs g i to most).toInt := i_neg (by omega)
  have k2 : (of g i 2 + -drs g i to most).toInt = (of g i 2).toInt - (drs g i to most).toInt := by
    rw [i_add (by rw [hneg]; omega) (by rw [hneg]; omega), hneg]
    omega
  refine ⟨by rw [a2, k2]; omega, by rw [a2, k2]; omega, ?_, fun z => ?_⟩
  · rw [a2, o12_drive, add_sub_l, Int32.add_assoc, Int32.add_left_neg, Int32.add_zero]
  · have z0 : drs g i to most = 0 := Int32.toInt_inj.mp (by rw [e, Int32.toInt_zero]; omega)
    rw [a1, z0]
    split <;> simp
theorem warm1_w (g : Nat → Int32) (i : Nat) {w : Nat} (hw : w < 66) (h0 : ¬ w = 0) : of (f_warm1 i g) i w = of g i w := by
  unfold f_warm1
  rw [of_pt _ _ (by decide) hw, if_neg (by omega)]
theorem warm_w (g : Nat → Int32) (i : Nat) {w : Nat} (hw : w < 66) (h0 : ¬ w = 0) (h7 : ¬ w = 7) (h13 : ¬ w = 13) : of (f_warm i g) i w = of g i w := by
  unfold f_warm f_warm2
  split
  · rw [of_ad _ _ (by decide) hw, if_neg (by omega), of_pt _ _ (by decide) hw, if_neg (by omega), warm1_w g i hw h0]
  · split
    · rw [of_ad _ _ (by decide) hw, if_neg (by omega), warm1_w g i hw h0]
    · exact warm1_w g i hw h0
theorem warm_7 (g : Nat → Int32) (i : Nat) : of (f_warm i g) i 7 = g 5 ∨ of (f_warm i g) i 7 = of g i 7 ∨ (0 < (of g i 7).toInt ∧ of (f_warm i g) i 7 = of g i 7 + -1) := by
  have e1 := warm1_w g i (w := 7) (by decide) (by decide)
  have e5 : f_warm1 i g 5 = g 5 := pt_lo g _ (by decide)
  unfold f_warm f_warm2
  split
  · refine Or.inl ?_
    rw [of_ad _ _ (by decide) (by decide), if_neg (by omega), of_pt _ _ (by decide) (by decide), if_pos ⟨rfl, rfl⟩, e5]
  · split
    · rename_i c
      rw [e1, Int32.lt_iff_toInt_lt, Int32.toInt_zero] at c
      exact Or.inr (Or.inr ⟨c, by rw [of_ad _ _ (by decide) (by decide), if_pos ⟨rfl, rfl⟩, e1]⟩)
    · exact Or.inr (Or.inl e1)
theorem over_w (g : Nat → Int32) (i : Nat) {w : Nat} (hw : w < 66) (h9 : ¬ w = 9) : of (f_over i g) i w = of g i w := by
  unfold f_over
  split
  · rw [of_ad _ _ (by decide) hw, if_neg (by omega)]
  · rfl
theorem exif_w (g : Nat → Int32) (i : Nat) {w : Nat} (hw : w < 66) (h1 : ¬ w = 1) (h2 : ¬ w = 2) (h12 : ¬ w = 12) (h14 : ¬ w = 14) : of (f_exif i g) i w = of g i w := by
  unfold f_exif
  split
  · unfold f_ex
    rw [of_ad _ _ (by decide) hw, if_neg (by omega), drive_w _ _ _ _ hw h1 h2 h12, drive_w _ _ _ _ hw h1 h2 h12, drive_w _ _ _ _ hw h1 h2 h12]
  · rfl
theorem away_w (g : Nat → Int32) (i : Nat) (x : Int32) {w : Nat} (hw : w < 66) (h16 : ¬ w = 16) : of (f_away i x g) i w = of g i w := by
  unfold f_away
  rw [of_ad _ _ (by decide) hw, if_neg (by omega)]
theorem empty_w (g : Nat → Int32) (i : Nat) {w : Nat} (hw : w < 66) (h17 : ¬ w = 17) : of (f_empty i g) i w = of g i w := by
  unfold f_empty
  rw [of_ad _ _ (by decide) hw, if_neg (by omega)]
theorem heat_w (g : Nat → Int32) (i : Nat) {w : Nat} (hw : w < 66) (h10 : ¬ w = 10) : of (f_heat i g) i w = of g i w := by
  unfold f_heat
  rw [of_ad _ _ (by decide) hw, if_neg (by omega)]
theorem fin_w (g : Nat → Int32) (i : Nat) {w : Nat} (hw : w < 66) (h1 : ¬ w = 1) (h2 : ¬ w = 2) (h12 : ¬ w = 12) (h16 : ¬ w = 16) (h17 : ¬ w = 17) (h10 : ¬ w = 10) : of (f_fin i g) i w = of g i w := by
  unfold f_fin
  rw [heat_w _ _ hw h10, empty_w _ _ hw h17, away_w _ _ _ hw h16, drive_w _ _ _ _ hw h1 h2 h12]
theorem fin_10 (g : Nat → Int32) (i : Nat) : of (f_fin i g) i 10 = of g i 10 + of (f_fin i g) i 1 := by
  unfold f_fin
  rw [heat_w _ i (w := 1) (by decide) (by decide)]
  unfold f_heat
  rw [of_ad _ _ (by decide) (by decide), if_pos ⟨rfl, rfl⟩, empty_w _ i (w := 10) (by decide) (by decide), away_w _ i _ (w := 10) (by decide) (by decide), drive_w _ i _ _ (w := 10) (by decide) (by decide) (by decide) (by decide)]
theorem fin_16 (g : Nat → Int32) (i : Nat) : of (f_fin i g) i 16 = of g i 16 + 0 ∨ of (f_fin i g) i 16 = of g i 16 + 1 := by
  have e : ∀ x : Int32, of (f_away i x (f_drive i (wnt g i) (g 9) g)) i 16 = of g i 16 + (if of (f_drive i (wnt g i) (g 9) g) i 1 = x then 0 else 1) := fun x => by
    unfold f_away
    rw [of_ad _ _ (by decide) (by decide), if_pos ⟨rfl, rfl⟩, drive_w _ i _ _ (w := 16) (by decide) (by decide) (by decide) (by decide)]
  have e2 : of (f_fin i g) i 16 = of (f_away i (wnt g i) (f_drive i (wnt g i) (g 9) g)) i 16 := by
    unfold f_fin
    rw [heat_w _ i (w := 16) (by decide) (by decide), empty_w _ i (w := 16) (by decide) (by decide)]
  rw [e2, e]
  split
  · exact Or.inl rfl
  · exact Or.inr rfl
theorem fin_17 (g : Nat → Int32) (i : Nat) : of (f_fin i g) i 17 = of g i 17 + 0 ∨ of (f_fin i g) i 17 = of g i 17 + 1 := by
  have e2 : of (f_fin i g) i 17 = of (f_empty i (f_away i (wnt g i) (f_drive i (wnt g i) (g 9) g))) i 17 := by
    unfold f_fin
    rw [heat_w _ i (w := 17) (by decide) (by decide)]
  have e : ∀ d : Nat → Int32, of d i 17 = of g i 17 → (of (f_empty i d) i 17 = of g i 17 + 0 ∨ of (f_empty i d) i 17 = of g i 17 + 1) := fun d hd => by
    unfold f_empty
    rw [of_ad _ _ (by decide) (by decide), if_pos ⟨rfl, rfl⟩, hd]
    split
    · exact Or.inr rfl
    · exact Or.inl rfl
  rw [e2]
  exact e _ (by rw [away_w _ i _ (w := 17) (by decide) (by decide), drive_w _ i _ _ (w := 17) (by decide) (by decide) (by decide) (by decide)])
theorem add01 {x y : Int32} {t : Int} (h : 0 ≤ x.toInt ∧ x.toInt ≤ t) (ht : t < 2147483647) (hy : y = x + 0 ∨ y = x + 1) : 0 ≤ y.toInt ∧ y.toInt ≤ t + 1 := by
  rcases hy with rfl | rfl
  · rw [Int32.add_zero]; omega
  · rw [i_add1 h.1 (by omega)]; omega
theorem EX_goOn {g : Nat → Int32} {i : Nat} {t : Int} (hE : EXr (g 5).toInt t (of g i)) (hh : 0 ≤ (g 5).toInt) (ht : t < 2147483647) : EXr (g 5).toInt (t + 1) (of (f_goOn i g) i) := by
  obtain ⟨h7, h16, h17⟩ := hE
  have e7 : of (f_goOn i g) i 7 = of (f_warm i g) i 7 := by
    unfold f_goOn
    rw [fin_w _ i (w := 7) (by decide) (by decide) (by decide) (by decide) (by decide) (by decide) (by decide), exif_w _ i (w := 7) (by decide) (by decide) (by decide) (by decide) (by decide), over_w _ i (w := 7) (by decide) (by decide)]
  have eb : ∀ w, w < 66 → ¬ w = 0 → ¬ w = 7 → ¬ w = 13 → ¬ w = 9 → ¬ w = 1 → ¬ w = 2 → ¬ w = 12 → ¬ w = 14 → of (f_exif i (f_over i (f_warm i g))) i w = of g i w := fun w hw a0 a7 a13 a9 a1 a2 a12 a14 => by
    rw [exif_w _ i hw a1 a2 a12 a14, over_w _ i hw a9, warm_w _ i hw a0 a7 a13]
  refine ⟨?_, ?_, ?_⟩
  · rw [e7]
    rcases warm_7 g i with e | e | ⟨c, e⟩
    · rw [e]; omega
    · rw [e]; exact h7
    · have k : (-1 : Int32).toInt = -1 := by decide
      have hlt := (of g i 7).toInt_lt
      have e' : (of g i 7 + -1).toInt = (of g i 7).toInt - 1 := by rw [i_add (by rw [k]; omega) (by rw [k]; omega), k]; omega
      rw [e, e']
      omega
  · have e := fin_16 (f_exif i (f_over i (f_warm i g))) i
    rw [eb 16 (by decide) (by decide) (by decide) (by decide) (by decide) (by decide) (by decide) (by decide) (by decide)] at e
    exact add01 h16 ht e
  · have e := fin_17 (f_exif i (f_over i (f_warm i g))) i
    rw [eb 17 (by decide) (by decide) (by decide) (by decide) (by decide) (by decide) (by decide) (by decide) (by decide)] at e
    exact add01 h17 ht e
theorem BS_exif {g : Nat → Int32} {i : Nat} (h : RG g i) : BS (of g i) (of (f_exif i g) i) := by
  unfold f_exif
  split
  · have b1 : BS (of g i) (of (f_drive i 100 100 g) i) := BS_drive h (by rw [l100]; omega) (by rw [l100]; omega)
    have b2 : BS (of (f_drive i 100 100 g) i) (of (f_drive i 0 100 (f_drive i 100 100 g)) i) := BS_drive (RG_ex1 h) (by rw [Int32.toInt_zero]; omega) (by rw [l100]; omega)
    have b3 : BS (of (f_drive i 0 100 (f_drive i 100 100 g)) i) (of (f_drive i (of g i 1) 100 (f_drive i 0 100 (f_drive i 100 100 g))) i) := BS_drive (RG_ex2 h) h.1 (by rw [l100]; omega)
    unfold f_ex
    refine ((b1.tr b2).tr b3).cg ?_ ?_ ?_
    · rw [of_ad _ _ (by decide) (by decide), if_neg (by omega)]
    · rw [of_ad _ _ (by decide) (by decide), if_neg (by omega)]
    · rw [of_ad _ _ (by decide) (by decide), if_neg (by omega)]
  · exact BS.rf h.2.1
theorem BS_goOn {g : Nat → Int32} {i : Nat} (h : RG g i) (ho : OV (FXw i g) i) (h9 : 0 ≤ (g 9).toInt) : BS (of g i) (of (f_goOn i g) i) := by
  have r1 := RG_over (RG_warm h)
  have b1 : BS (of g i) (of (f_over i (f_warm i g)) i) := (BS.rf h.2.1).cg (by rw [over_w _ i (by decide) (by decide), warm_w _ i (by decide) (by decide) (by decide) (by decide)]) (by rw [over_w _ i (by decide) (by decide), warm_w _ i (by decide) (by decide) (by decide) (by decide)]) (by rw [over_w _ i (by decide) (by decide), warm_w _ i (by decide) (by decide) (by decide) (by decide)])
  have b2 := BS_exif r1
  have r2 : RG (FXw i g) i := RG_exif r1
  have hk : kp g (FXw i g) := (kp_warm g i).tr ((kp_over _ i).tr (kp_exif _ i))
  have e9 : FXw i g 9 = g 9 := hk.2 9 (by decide)
  have b3 : BS (of (FXw i g) i) (of (f_drive i (wnt (FXw i g) i) (FXw i g 9) (FXw i g)) i) := BS_drive r2 (wnt_i r2 ho) (by rw [e9]; exact h9)
  have b4 : BS (of g i) (of (f_drive i (wnt (FXw i g) i) (FXw i g 9) (FXw i g)) i) := (b1.tr b2).tr b3
  show BS (of g i) (of (f_heat i (f_empty i (f_away i (wnt (FXw i g) i) (f_drive i (wnt (FXw i g) i) (FXw i g 9) (FXw i g))))) i)
  exact b4.cg (by rw [heat_w _ i (by decide) (by decide), empty_w _ i (by decide) (by decide), away_w _ i _ (by decide) (by decide)]) (by rw [heat_w _ i (by decide) (by decide), empty_w _ i (by decide) (by decide), away_w _ i _ (by decide) (by decide)]) (by rw [heat_w _ i (by decide) (by decide), empty_w _ i (by decide) (by decide), away_w _ i _ (by decide) (by decide)])
theorem carry_w (g : Nat → Int32) (i j : Nat) (k : Int32) {w : Nat} (hw : w < 66) (h5 : ¬ w = 5) (h6 : ¬ w = 6) (h15 : ¬ w = 15) : of (f_carry i k g) j w = of g j w := by
  unfold f_carry
  rw [of_ad _ _ (by decide) hw, if_neg (by omega)]
  split
  · rw [of_pt _ _ (by decide) hw, if_neg (by omega)]
  · rw [of_pt _ _ (by decide) hw, if_neg (by omega)]
theorem cars_w (g : Nat → Int32) (j : Nat) {w : Nat} (hw : w < 66) (h5 : ¬ w = 5) (h6 : ¬ w = 6) (h15 : ¬ w = 15) : ∀ k, of (f_cars g k) j w = of g j w
  | 0 => rfl
  | k + 1 => (carry_w _ _ j _ hw h5 h6 h15).trans (cars_w g j hw h5 h6 h15 k)
theorem time_3 (g : Nat → Int32) : f_time g 3 = g 3 := by
  unfold f_time
  exact upd_o (by decide)
theorem pn_cars (g : Nat → Int32) : pn (f_cars (f_time g) (dueN (f_time g))) = pn g := (pn_cg ((kp_cars _ _).2 3 (by decide))).trans (pn_cg (time_3 g))
theorem due_w {T : Int} {g : Nat → Int32} (h : GG T g) (j : Nat) {w : Nat} (hw : w < 66) (h5 : ¬ w = 5) (h6 : ¬ w = 6) (h15 : ¬ w = 15) : of (f_due (f_time g)) j w = of g j w := by
  have h20 := h.pn20
  have e1 : of (f_due (f_time g)) j w = of (f_cars (f_time g) (dueN (f_time g))) j w := by
    unfold of f_due
    exact drop_hi (by rw [pn_cars]; exact h20) (by omega)
  have e2 : of (f_time g) j w = of g j w := by
    unfold of f_time
    exact upd_o (by omega)
  rw [e1, cars_w _ j hw h5 h6 h15, e2]
theorem tick_of (g : Nat → Int32) {i : Nat} (hi : i < rn g) {w : Nat} (hw : w < 66) : of (f_tick g) i w = of (f_goOn i (f_due (f_time g))) i w := by
  have e := goOns_rst (f_due (f_time g)) i (rn g)
  rw [if_pos hi] at e
  exact rst_of e hw
theorem tick_lo (g : Nat → Int32) {k : Nat} (hk : k < 71) : f_tick g k = f_due (f_time g) k := (kp_goOns _ _).2 k hk
theorem tick_1 (g : Nat → Int32) : f_tick g 1 = g 1 + 1 := by
  rw [tick_lo g (by decide)]
  unfold f_due
  rw [drop_lo (by decide) (by decide), (kp_cars _ _).2 1 (by decide)]
  exact upd_e
theorem tick_5 (g : Nat → Int32) : f_tick g 5 = g 5 := by
  rw [tick_lo g (by decide)]
  exact due_hdr g (by decide) (by decide) (by decide)
theorem due_5 (g : Nat → Int32) : f_due (f_time g) 5 = g 5 := due_hdr g (by decide) (by decide) (by decide)
theorem du_end (g : Nat → Int32) : ∀ r k, du g r k < k + r → ¬ g (11 + 3 * du g r k) = g 1
  | 0, k, h => by
    exact absurd h (Nat.lt_irrefl _)
  | r + 1, k, h => by
    by_cases c : g (11 + 3 * k) = g 1
    · have e : du g (r + 1) k = du g r (k + 1) := if_pos c
      rw [e] at h ⊢
      exact du_end g r (k + 1) (by omega)
    · have e : du g (r + 1) k = k := if_neg c
      rw [e]
      exact c
theorem PLS_mono {g : Nat → Int32} (h : PLS g) {a : Nat} : ∀ d, a + d < pn g → (g (11 + 3 * a)).toInt ≤ (g (11 + 3 * (a + d))).toInt
  | 0, _ => Int.le_refl _
  | d + 1, hd => Int.le_trans (PLS_mono h d (by omega)) (h.2 (a + d) (by omega))
theorem PLS_tick {T : Int} {g : Nat → Int32} (hg : GG T g) (hT : T ≤ 200000) (h : PLS g) : PLS (f_tick g) := by
  have h20 := hg.pn20
  have t0 := hg.t0
  have tT := hg.tT
  have e1 : (f_tick g 1).toInt = (g 1).toInt + 1 := by rw [tick_1, i_add1 t0 (by omega)]
  have epf : pn (f_time g) = pn g := pn_cg (time_3 g)
  have hm := dueN_le (f_time g)
  rw [epf] at hm
  have e3 : (f_tick g 3).toInt = (g 3).toInt - (dueN (f_time g) : Nat) := by
    rw [tick_lo g (by decide)]
    show (f_cars (f_time g) (dueN (f_time g)) 3 - nI (dueN (f_time g))).toInt = _
    rw [(kp_cars _ _).2 3 (by decide), time_3]
    exact i_subN hg.1.2.2.1.1 hm
  have ep : pn (f_tick g) = pn g - dueN (f_time g) := by
    unfold pn
    rw [e3]
    have := hg.1.2.2.1.1
    omega
  have ek : ∀ k, k < pn g - dueN (f_time g) → f_tick g (11 + 3 * k) = g (11 + 3 * (k + dueN (f_time g))) := fun k hk => by
    rw [tick_lo g (by omega)]
    have q := drop_pl (g := f_cars (f_time g) (dueN (f_time g))) (m := dueN (f_time g)) (k := k) (w := 0) (by decide) (by rw [pn_cars]; exact hk)
    have q2 : f_due (f_time g) (11 + 3 * k) = f_cars (f_time g) (dueN (f_time g)) (11 + 3 * (k + dueN (f_time g))) := q
    rw [q2, (kp_cars _ _).2 _ (by omega)]
    exact upd_o (by omega)
  refine ⟨fun k hk => ?_, fun k hk => ?_⟩
  · rw [ep] at hk
    rw [ek k hk, e1]
    have hlt : dueN (f_time g) < pn g := by omega
    have a1 := h.1 (dueN (f_time g)) hlt
    have a2 := PLS_mono h (a := dueN (f_time g)) k (by omega)
    rw [Nat.add_comm (dueN (f_time g)) k] at a2
    have a3 : ¬ f_time g (11 + 3 * dueN (f_time g)) = f_time g 1 := du_end (f_time g) (pn (f_time g)) 0 (by show dueN (f_time g) < _; omega)
    have b1 : f_time g (11 + 3 * dueN (f_time g)) = g (11 + 3 * dueN (f_time g)) := upd_o (by omega)
    have b2 : f_time g 1 = g 1 + 1 := upd_e
    rw [b1, b2, ← Int32.toInt_inj, i_add1 t0 (by omega)] at a3
    have a4 : (g (11 + 3 * (k + dueN (f_time g)))).toInt = (g (11 + 3 * (k + dueN (f_time g)))).toInt := rfl
    omega
  · rw [ep] at hk
    rw [ek k (by omega), ek (k + 1) (by omega)]
    have := h.2 (k + dueN (f_time g)) (by omega)
    rw [show k + 1 + dueN (f_time g) = k + dueN (f_time g) + 1 by omega]
    exact this
theorem rn_tk (g : Nat → Int32) : rn (f_tick g) = rn g := rn_cg (rn_tick g)
theorem JJ_tick {g : Nat → Int32} (h : JJ g) (hT : (g 1).toInt ≤ 200000) : JJ (f_tick g) ∧ (f_tick g 1).toInt = (g 1).toInt + 1 ∧ ∀ i, i < rn g → BS (of g i) (of (f_tick g) i) ∧ of (f_tick g) i 10 = of g i 10 + of (f_tick g) i 1 := by
  obtain ⟨hg, hE, hP⟩ := h
  have t0 := hg.t0
  have e1 : (f_tick g 1).toInt = (g 1).toInt + 1 := by rw [tick_1, i_add1 t0 (by omega)]
  obtain ⟨g1, hL⟩ := GG_tick hg hT
  refine ⟨⟨by rw [e1]; exact g1, fun i hi => ?_, PLS_tick hg hT hP⟩, e1, fun i hi => ⟨?_, ?_⟩⟩
  · rw [rn_tk] at hi
    have hq : EXr (f_due (f_time g) 5).toInt (g 1).toInt (of (f_due (f_time g)) i) := by
      rw [due_5]
      exact (hE i hi).cg (due_w hg i (by decide) (by decide) (by decide) (by decide)) (due_w hg i (by decide) (by decide) (by decide) (by decide)) (due_w hg i (by decide) (by decide) (by decide) (by decide))
    have h5 := hg.2.1.2.2.1.1
    have hq2 := EX_goOn hq (by rw [due_5]; omega) (by omega)
    rw [due_5] at hq2
    rw [tick_5, e1]
    exact hq2.cg (tick_of g hi (by decide)) (tick_of g hi (by decide)) (tick_of g hi (by decide))
  · obtain ⟨r1, r2, r3, r4⟩ := hL i hi
    have b := BS_goOn r1 r2 r4
    refine (b.cg0 ?_ ?_ ?_).cg (tick_of g hi (by decide)) (tick_of g hi (by decide)) (tick_of g hi (by decide))
    · exact (due_w hg i (by decide) (by decide) (by decide) (by decide)).symm
    · exact (due_w hg i (by decide) (by decide) (by decide) (by decide)).symm
    · exact (due_w hg i (by decide) (by decide) (by decide) (by decide)).symm
  · rw [tick_of g hi (by decide), tick_of g hi (w := 1) (by decide)]
    unfold f_goOn
    rw [fin_10, exif_w _ i (w := 10) (by decide) (by decide) (by decide) (by decide) (by decide), over_w _ i (w := 10) (by decide) (by decide), warm_w _ i (w := 10) (by decide) (by decide) (by decide) (by decide), due_w hg i (w := 10) (by decide) (by decide) (by decide) (by decide)]
theorem JJ_ticks {g : Nat → Int32} (h : JJ g) : ∀ N : Nat, (g 1).toInt + N ≤ 200000 → JJ (ticksN g N) ∧ (ticksN g N 1).toInt = (g 1).toInt + N ∧ ∀ i, i < rn g → BS (of g i) (of (ticksN g N) i)
  | 0, _ => ⟨h, by show (g 1).toInt = _; omega, fun i hi => BS.rf ((h.1.RG hi).2.1)⟩
  | N + 1, hN => by
    obtain ⟨a1, a2, a3⟩ := JJ_ticks h N (by omega)
    obtain ⟨b1, b2, b3⟩ := JJ_tick a1 (by omega)
    have er := rn_ticks g N
    refine ⟨b1, by show (f_tick (ticksN g N) 1).toInt = _; rw [b2, a2]; omega, fun i hi => (a3 i hi).tr (b3 i (by rw [er]; exact hi)).1⟩
