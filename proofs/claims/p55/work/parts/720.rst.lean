/-! A row cut down to its header and one room: what a room does depends on these alone, and leaves the others alone. -/
def rst (i : Nat) (g : Nat → Int32) : Nat → Int32 := fun j => if j < 71 ∨ (71 + 66 * i ≤ j ∧ j < 71 + 66 * i + 66) then g j else 0
theorem lo_rst (i : Nat) (g : Nat → Int32) {k : Nat} (h : k < 71) : rst i g k = g k := if_pos (Or.inl h)
theorem of_rst (i : Nat) (g : Nat → Int32) {w : Nat} (h : w < 66) : of (rst i g) i w = of g i w := if_pos (Or.inr (by omega))
theorem pt_rst (i : Nat) (g : Nat → Int32) {w : Nat} (x : Int32) (h : w < 66) : pt (rst i g) i w x = rst i (pt g i w x) := by
  funext j
  unfold pt rst upd
  by_cases hj : j = 71 + 66 * i + w
  · rw [if_pos hj, if_pos (Or.inr (by omega)), if_pos hj]
  · rw [if_neg hj, if_neg hj]
theorem ad_rst (i : Nat) (g : Nat → Int32) {w : Nat} (x : Int32) (h : w < 66) : ad (rst i g) i w x = rst i (ad g i w x) := by
  show pt (rst i g) i w (of (rst i g) i w + x) = rst i (pt g i w (of g i w + x))
  rw [of_rst i g h, pt_rst i g _ h]
theorem pg_rst (i : Nat) (g : Nat → Int32) : pg (rst i g) i = pg g i := by
  funext t
  unfold pg
  by_cases h : t < 48
  · rw [if_pos h, if_pos h, of_rst i g (by omega)]
  · rw [if_neg h, if_neg h]
theorem tod_rst (i : Nat) (g : Nat → Int32) : tod (rst i g) = tod g := by
  unfold tod
  rw [lo_rst i g (by decide)]
theorem tgt_rst (i : Nat) (g : Nat → Int32) : tgt (rst i g) i = tgt g i := by
  unfold tgt
  rw [of_rst i g (by decide), of_rst i g (by decide), of_rst i g (by decide), pg_rst, tod_rst, lo_rst i g (by decide)]
theorem mis_rst (i : Nat) (g : Nat → Int32) : mis (rst i g) i = mis g i := by
  unfold mis
  rw [tgt_rst, of_rst i g (by decide)]
theorem wnt_rst (i : Nat) (g : Nat → Int32) : wnt (rst i g) i = wnt g i := by
  unfold wnt
  rw [of_rst i g (by decide), of_rst i g (by decide), mis_rst, lo_rst i g (by decide), lo_rst i g (by decide)]
theorem drs_rst (i : Nat) (g : Nat → Int32) (to most : Int32) : drs (rst i g) i to most = drs g i to most := by
  unfold drs
  rw [of_rst i g (by decide), of_rst i g (by decide)]
theorem drive_rst (i : Nat) (g : Nat → Int32) (to most : Int32) : f_drive i to most (rst i g) = rst i (f_drive i to most g) := by
  unfold f_drive
  rw [drs_rst, of_rst i g (by decide), ad_rst _ _ _ (by decide), ad_rst _ _ _ (by decide), ad_rst _ _ _ (by decide)]
theorem warm1_rst (i : Nat) (g : Nat → Int32) : f_warm1 i (rst i g) = rst i (f_warm1 i g) := by
  unfold f_warm1
  rw [of_rst i g (by decide), of_rst i g (by decide), of_rst i g (by decide), of_rst i g (by decide), of_rst i g (by decide), lo_rst i g (by decide), pt_rst _ _ _ (by decide)]
theorem warm2_rst (i : Nat) (b : Int32) (g : Nat → Int32) : f_warm2 i b (rst i g) = rst i (f_warm2 i b g) := by
  unfold f_warm2
  rw [of_rst i g (by decide), of_rst i g (by decide), lo_rst i g (by decide), lo_rst i g (by decide), pt_rst _ _ _ (by decide), ad_rst _ _ _ (by decide), ad_rst _ _ _ (by decide)]
  split
  · rfl
  · split <;> rfl
theorem warm_rst (i : Nat) (g : Nat → Int32) : f_warm i (rst i g) = rst i (f_warm i g) := by
  unfold f_warm
  rw [of_rst i g (by decide), warm1_rst, warm2_rst]
theorem over_rst (i : Nat) (g : Nat → Int32) : f_over i (rst i g) = rst i (f_over i g) := by
  unfold f_over
  rw [of_rst i g (by decide), ad_rst _ _ _ (by decide)]
  split <;> rfl
theorem ex_rst (i : Nat) (g : Nat → Int32) : f_ex i (rst i g) = rst i (f_ex i g) := by
  unfold f_ex
  rw [of_rst i g (by decide), drive_rst, drive_rst, drive_rst, ad_rst _ _ _ (by decide)]
theorem exif_rst (i : Nat) (g : Nat → Int32) : f_exif i (rst i g) = rst i (f_exif i g) := by
  unfold f_exif
  rw [lo_rst i g (by decide), lo_rst i g (by decide), ex_rst]
  split <;> rfl
theorem fin_rst (i : Nat) (g : Nat → Int32) : f_fin i (rst i g) = rst i (f_fin i g) := by
  unfold f_fin f_heat f_empty f_away
  rw [wnt_rst, lo_rst i g (by decide), drive_rst, of_rst _ _ (by decide), ad_rst _ _ _ (by decide), of_rst _ _ (by decide), ad_rst _ _ _ (by decide), of_rst _ _ (by decide), ad_rst _ _ _ (by decide)]
theorem goOn_rst (i : Nat) (g : Nat → Int32) : f_goOn i (rst i g) = rst i (f_goOn i g) := by
  unfold f_goOn
  rw [warm_rst, over_rst, exif_rst, fin_rst]
theorem carry_rst (i : Nat) (k : Int32) (g : Nat → Int32) : f_carry i k (rst i g) = rst i (f_carry i k g) := by
  unfold f_carry
  rw [pt_rst _ _ _ (by decide), pt_rst _ _ _ (by decide)]
  split
  · rw [ad_rst _ _ _ (by decide)]
  · rw [ad_rst _ _ _ (by decide)]
/-- the others -/
theorem pt_oth {i j : Nat} (h : ¬ j = i) (g : Nat → Int32) {w : Nat} (x : Int32) (hw : w < 66) : rst j (pt g i w x) = rst j g := by
  funext k
  unfold rst pt upd
  by_cases hk : k < 71 ∨ (71 + 66 * j ≤ k ∧ k < 71 + 66 * j + 66)
  · rw [if_pos hk, if_pos hk, if_neg (by
      have h2 : j < i ∨ i < j := by omega
      rcases h2 with h2 | h2
      · have := Nat.mul_le_mul_left 66 (show j + 1 ≤ i from h2)
        omega
      · have := Nat.mul_le_mul_left 66 (show i + 1 ≤ j from h2)
        omega)]
  · rw [if_neg hk, if_neg hk]
theorem ad_oth {i j : Nat} (h : ¬ j = i) (g : Nat → Int32) {w : Nat} (x : Int32) (hw : w < 66) : rst j (ad g i w x) = rst j g := pt_oth h g _ hw
theorem drive_oth {i j : Nat} (h : ¬ j = i) (g : Nat → Int32) (to most : Int32) : rst j (f_drive i to most g) = rst j g := by
  unfold f_drive
  rw [ad_oth h _ _ (by decide), ad_oth h _ _ (by decide), ad_oth h _ _ (by decide)]
theorem warm_oth {i j : Nat} (h : ¬ j = i) (g : Nat → Int32) : rst j (f_warm i g) = rst j g := by
  have h1 : rst j (f_warm1 i g) = rst j g := pt_oth h _ _ (by decide)
  unfold f_warm f_warm2
  split
  · rw [ad_oth h _ _ (by decide), pt_oth h _ _ (by decide), h1]
  · split
    · rw [ad_oth h _ _ (by decide), h1]
    · exact h1
theorem over_oth {i j : Nat} (h : ¬ j = i) (g : Nat → Int32) : rst j (f_over i g) = rst j g := by
  unfold f_over
  split
  · exact ad_oth h _ _ (by decide)
  · rfl
theorem exif_oth {i j : Nat} (h : ¬ j = i) (g : Nat → Int32) : rst j (f_exif i g) = rst j g := by
  unfold f_exif
  split
  · unfold f_ex
    rw [ad_oth h _ _ (by decide), drive_oth h, drive_oth h, drive_oth h]
  · rfl
theorem goOn_oth {i j : Nat} (h : ¬ j = i) (g : Nat → Int32) : rst j (f_goOn i g) = rst j g := by
  unfold f_goOn f_fin f_heat f_empty f_away
  rw [ad_oth h _ _ (by decide), ad_oth h _ _ (by decide), ad_oth h _ _ (by decide), drive_oth h, exif_oth h, over_oth h, warm_oth h]
theorem carry_oth {i j : Nat} (h : ¬ j = i) (k : Int32) (g : Nat → Int32) : rst j (f_carry i k g) = rst j g := by
  unfold f_carry
  rw [ad_oth h _ _ (by decide)]
  split
  · exact pt_oth h _ _ (by decide)
  · exact pt_oth h _ _ (by decide)
theorem goOns_rst (g : Nat → Int32) (i : Nat) : ∀ c, rst i (goOns g c) = if i < c then rst i (f_goOn i g) else rst i g := by
  intro c
  induction c with
  | zero => rfl
  | succ c ih =>
    show rst i (f_goOn c (goOns g c)) = _
    by_cases hc : i = c
    · subst hc
      rw [if_neg (Nat.lt_irrefl _)] at ih
      rw [if_pos (Nat.lt_succ_self _), ← goOn_rst, ih, goOn_rst]
    · rw [goOn_oth hc, ih]
      by_cases h : i < c
      · rw [if_pos h, if_pos (by omega)]
      · rw [if_neg h, if_neg (by omega)]
theorem rst_of {i : Nat} {g g' : Nat → Int32} (h : rst i g = rst i g') {w : Nat} (hw : w < 66) : of g i w = of g' i w := by
  rw [← of_rst i g hw, h, of_rst i g' hw]
theorem rst_pg {i : Nat} {g g' : Nat → Int32} (h : rst i g = rst i g') : pg g i = pg g' i := by
  rw [← pg_rst i g, h, pg_rst]
theorem RR_rst {S : SS} {r i : Nat} {g g' : Nat → Int32} (h : rst i g = rst i g') (hr : RR S r g i) : RR S r g' i :=
  ⟨fun w hw => (hr.1 w hw).trans (rst_of h (by omega)), fun c hc => (hr.2.1 c hc).trans (rst_of h (by omega)), by rw [← rst_pg h]; exact hr.2.2⟩

