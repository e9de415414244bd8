/-! Changes keep the ranges and the names. -/
def q11 (g g' : Nat → Int32) : Prop := ∀ i, of g' i 11 = of g i 11
theorem q11.rf {g : Nat → Int32} : q11 g g := fun _ => rfl
theorem q11.tr {a b c : Nat → Int32} (h1 : q11 a b) (h2 : q11 b c) : q11 a c := fun i => (h2 i).trans (h1 i)
theorem q11_pt (g : Nat → Int32) (i : Nat) {w : Nat} (x : Int32) (hw : w < 66) (h : ¬ w = 11) : q11 g (pt g i w x) := fun j => by
  unfold of pt upd
  exact if_neg (by omega)
theorem q11_ad (g : Nat → Int32) (i : Nat) {w : Nat} (x : Int32) (hw : w < 66) (h : ¬ w = 11) : q11 g (ad g i w x) := q11_pt g i _ hw h
theorem q11_upd (g : Nat → Int32) {j : Nat} (x : Int32) (h : j < 71) : q11 g (upd g j x) := fun i => by
  unfold of upd
  exact if_neg (by omega)
theorem q11_drive (g : Nat → Int32) (i : Nat) (to most : Int32) : q11 g (f_drive i to most g) := ((q11_ad _ i _ (by decide) (by decide)).tr (q11_ad _ i _ (by decide) (by decide))).tr (q11_ad _ i _ (by decide) (by decide))
theorem q11_warm (g : Nat → Int32) (i : Nat) : q11 g (f_warm i g) := by
  refine q11.tr (b := f_warm1 i g) (q11_pt g i (w := 0) _ (by decide) (by decide)) ?_
  show q11 (f_warm1 i g) (f_warm2 i (of g i 0) (f_warm1 i g))
  unfold f_warm2
  split
  · exact (q11_pt _ i _ (by decide) (by decide)).tr (q11_ad _ i _ (by decide) (by decide))
  · split
    · exact q11_ad _ i _ (by decide) (by decide)
    · exact q11.rf
theorem q11_over (g : Nat → Int32) (i : Nat) : q11 g (f_over i g) := by
  unfold f_over
  split
  · exact q11_ad _ i _ (by decide) (by decide)
  · exact q11.rf
theorem q11_ex (g : Nat → Int32) (i : Nat) : q11 g (f_ex i g) := (((q11_drive _ i _ _).tr (q11_drive _ i _ _)).tr (q11_drive _ i _ _)).tr (q11_ad _ i _ (by decide) (by decide))
theorem q11_exif (g : Nat → Int32) (i : Nat) : q11 g (f_exif i g) := by
  unfold f_exif
  split
  · exact q11_ex g i
  · exact q11.rf
theorem q11_fin (g : Nat → Int32) (i : Nat) : q11 g (f_fin i g) := (((q11_drive _ i _ _).tr (q11_ad _ i _ (by decide) (by decide))).tr (q11_ad _ i _ (by decide) (by decide))).tr (q11_ad _ i _ (by decide) (by decide))
theorem q11_goOn (g : Nat → Int32) (i : Nat) : q11 g (f_goOn i g) := (((q11_warm g i).tr (q11_over _ i)).tr (q11_exif _ i)).tr (q11_fin _ i)
theorem q11_carry (g : Nat → Int32) (i : Nat) (k : Int32) : q11 g (f_carry i k g) := by
  unfold f_carry
  refine q11.tr (b := if k = 0 ∨ k = 1 then pt g i 5 (if k = 0 then 1 else 0) else pt g i 6 (if k = 2 then 1 else 0)) ?_ (q11_ad _ i _ (by decide) (by decide))
  split
  · exact q11_pt g i _ (by decide) (by decide)
  · exact q11_pt g i _ (by decide) (by decide)
theorem q11_cars (g : Nat → Int32) : ∀ k, q11 g (f_cars g k)
  | 0 => q11.rf
  | k + 1 => (q11_cars g k).tr (q11_carry _ _ _)
theorem q11_goOns (g : Nat → Int32) : ∀ k, q11 g (goOns g k)
  | 0 => q11.rf
  | k + 1 => (q11_goOns g k).tr (q11_goOn _ _)
theorem q11_drop {g : Nat → Int32} {a m : Nat} (hp : pn g ≤ 20) : q11 g (f_drop a m g) := fun i => drop_hi hp (by omega)
theorem q11_tick {g : Nat → Int32} (hp : pn g ≤ 20) : q11 g (f_tick g) := by
  have h1 : q11 g (f_time g) := q11_upd g _ (by decide)
  have e3 : pn (f_cars (f_time g) (dueN (f_time g))) = pn g := pn_cg (((kp_cars _ _).2 3 (by decide)).trans (show upd g 1 (g 1 + 1) 3 = g 3 from upd_o (by decide)))
  exact ((h1.tr (q11_cars _ _)).tr (q11_drop (by rw [e3]; exact hp))).tr (q11_goOns _ _)
theorem q11_ticks {T : Int} {g : Nat → Int32} (h : GG T g) : ∀ N : Nat, T + N ≤ 200001 → q11 g (ticksN g N)
  | 0, _ => q11.rf
  | k + 1, hk => (q11_ticks h k (by omega)).tr (q11_tick (GG_ticks h k (by omega)).pn20)
theorem q11_plan {g : Nat → Int32} (t r kk : Int32) (hp : pn g < 20) (hi : ipos g t (pn g) ≤ pn g) : q11 g (f_plan t r kk g) := fun i => by
  unfold f_plan f_ins of
  dsimp only
  rw [if_neg (by omega), if_neg (by omega), if_neg (by omega), if_neg (by omega), if_neg (by omega)]
theorem rn_pt (g : Nat → Int32) (i w : Nat) (x : Int32) : rn (pt g i w x) = rn g := rn_cg (if_neg (by omega))
theorem rn_upd (g : Nat → Int32) {j : Nat} (x : Int32) (h : ¬ j = 0) : rn (upd g j x) = rn g := rn_cg (if_neg (fun z => h z.symm))
theorem rn_drop (g : Nat → Int32) (k m : Nat) : rn (f_drop k m g) = rn g := rn_cg (by
  unfold f_drop
  rw [if_neg (by omega), if_neg (by omega)])
theorem rn_plan (g : Nat → Int32) (t r kk : Int32) : rn (f_plan t r kk g) = rn g := rn_cg (by
  unfold f_plan f_ins
  rw [if_neg (by omega), if_neg (by omega), if_neg (by omega), if_neg (by omega), if_neg (by omega)])
section GW
variable {T U : Int} {g : Nat → Int32} {i : Nat} {x : Int32}
theorem GR_w1 (h : GR T U g i) (hx : 0 ≤ x.toInt ∧ x.toInt ≤ 100) : GR T U (pt g i 1 x) i := by
  obtain ⟨⟨a, b, c, d⟩, q⟩ := h
  unfold GR RG
  rw [of_ptS, upd_e, upd_o (by decide), upd_o (by decide), upd_o (by decide)]
  exact ⟨⟨hx, b, c, d⟩, q.up (Or.inl rfl)⟩
theorem GR_w2 (h : GR T U g i) (hx : 0 ≤ x.toInt) : GR T U (pt g i 2 x) i := by
  obtain ⟨⟨a, b, c, d⟩, q⟩ := h
  unfold GR RG
  rw [of_ptS, upd_e, upd_o (by decide), upd_o (by decide), upd_o (by decide)]
  exact ⟨⟨a, hx, c, d⟩, q.up (Or.inr (Or.inl rfl))⟩
theorem GR_w6 (h : GR T U g i) (hx : x = 0 ∨ x = 1) : GR T U (pt g i 6 x) i := by
  obtain ⟨⟨a, b, c, d⟩, q⟩ := h
  unfold GR RG
  rw [of_ptS, upd_e, upd_o (by decide), upd_o (by decide), upd_o (by decide)]
  exact ⟨⟨a, b, c, hx⟩, q.up (Or.inr (Or.inr (Or.inr (Or.inl rfl))))⟩
theorem GR_w8 (h : GR T U g i) (hx : 50 ≤ x.toInt ∧ x.toInt ≤ 300) : GR T U (pt g i 8 x) i := by
  obtain ⟨⟨a, b, c, d⟩, q1, q2, q3, ⟨q4, q5⟩, q6⟩ := h
  unfold GR RG GRr
  rw [of_ptS, upd_e, upd_o (by decide), upd_o (by decide), upd_o (by decide), upd_o (by decide), upd_o (by decide), upd_o (by decide), upd_o (by decide), upd_o (by decide), upd_o (by decide), upd_o (by decide)]
  exact ⟨⟨a, b, c, d⟩, q1, q2, q3, ⟨q4, fun _ => hx⟩, q6⟩
theorem GR_w9 (h : GR T U g i) (h8 : 50 ≤ (of g i 8).toInt ∧ (of g i 8).toInt ≤ 300) (hx : 0 ≤ x.toInt) : GR T U (pt g i 9 x) i := by
  obtain ⟨⟨a, b, c, d⟩, q1, q2, q3, ⟨q4, q5⟩, q6⟩ := h
  unfold GR RG GRr
  rw [of_ptS, upd_e, upd_o (by decide), upd_o (by decide), upd_o (by decide), upd_o (by decide), upd_o (by decide), upd_o (by decide), upd_o (by decide), upd_o (by decide), upd_o (by decide), upd_o (by decide)]
  exact ⟨⟨a, b, c, d⟩, q1, q2, q3, ⟨hx, fun _ => h8⟩, q6⟩
theorem GG_drop {k : Nat} (h : GG T g) (hk : k < pn g) : GG T (f_drop k 1 g) := by
  have h20 := h.pn20
  have hg3 := h.e3
  have key : ∀ j w, w < 3 → j < pn g - 1 → f_drop k 1 g (11 + 3 * j + w) = g (11 + 3 * (if j < k then j else j + 1) + w) := fun j w hw hj => by
    unfold f_drop
    by_cases hjk : j < k
    · rw [if_neg (by omega), if_neg (by omega), if_pos hjk]
    · rw [if_neg (by omega), if_pos (by omega), if_neg hjk, show 11 + 3 * j + w + 3 * 1 = 11 + 3 * (j + 1) + w by omega]
  have key0 : ∀ j, j < pn g - 1 → f_drop k 1 g (11 + 3 * j) = g (11 + 3 * (if j < k then j else j + 1)) := fun j hj => key j 0 (by decide) hj
  have hj2 : ∀ j, j < pn g - 1 → (if j < k then j else j + 1) < pn g := fun j hj => by split <;> omega
  have lo : ∀ j, j < 11 → ¬ j = 3 → f_drop k 1 g j = g j := fun j hj h3 => by
    unfold f_drop
    rw [if_neg h3, if_neg (by omega)]
  have e3 : (f_drop k 1 g 3).toInt = (pn g : Int) - 1 := by
    show (g 3 - nI 1).toInt = _
    have h0 : (g 3).toInt = (pn g : Int) := by rw [hg3, nI_toInt (by omega)]
    rw [i_subN (by omega) (by omega), h0]
    rfl
  have ep : pn (f_drop k 1 g) = pn g - 1 := by
    show (f_drop k 1 g 3).toInt.toNat = _
    rw [e3]
    omega
  have er := rn_drop g k 1
  have eo : ∀ i w, of (f_drop k 1 g) i w = of g i w := fun i w => drop_hi h20 (by omega)
  have epg : ∀ i, pg (f_drop k 1 g) i = pg g i := fun i => by
    funext t
    unfold pg
    split
    · exact eo _ _
    · rfl
  obtain ⟨⟨v1, v2, v3, v4, v5⟩, gh, pl, p0, gr⟩ := h
  refine ⟨⟨by rw [lo 1 (by decide) (by decide)]; exact v1, by rw [lo 0 (by decide) (by decide)]; exact v2, by rw [e3]; omega, fun j hj => ?_, fun i => by rw [epg]; exact v5 i⟩, ?_, fun j hj => ?_, fun j hj => ?_, fun i hi => ?_⟩
  · rw [ep] at hj
    rw [key j 1 (by decide) hj]
    exact v4 _ (hj2 j hj)
  · unfold GH
    rw [lo 2 (by decide) (by decide), lo 4 (by decide) (by decide), lo 5 (by decide) (by decide), lo 6 (by decide) (by decide), lo 7 (by decide) (by decide), lo 8 (by decide) (by decide), lo 9 (by decide) (by decide), lo 10 (by decide) (by decide)]
    exact gh
  · rw [ep] at hj
    rw [er, key j 1 (by decide) hj, key j 2 (by decide) hj]
    exact pl _ (hj2 j hj)
  · rw [ep] at hj
    rw [key0 j hj]
    exact p0 _ (hj2 j hj)
  · rw [er] at hi
    exact (gr i hi).cg (fun w _ => eo i w)
end GW
theorem inr_i2 {x a b : Int32} (h : inr x a b) : a.toInt ≤ x.toInt ∧ x.toInt ≤ b.toInt := ⟨Int32.le_iff_toInt_le.mp h.1, Int32.le_iff_toInt_le.mp h.2⟩
theorem opn_q {x : Int32} (h : x = 0 ∨ x = 1) : (if x = 0 then (0 : Int64) else 1) = if b2i (x = 1) = 0 then 0 else 1 := by
  rcases h with rfl | rfl <;> decide
theorem bool_q {x : Int32} (h : x = 0 ∨ x = 1) : (if x = 0 then (0 : Int32) else 1) = x := by
  rcases h with rfl | rfl <;> decide
