/-! The ranges of a house's numbers by its age T; a tick keeps them. -/
theorem of_ptS (g : Nat → Int32) (i w : Nat) (x : Int32) : of (pt g i w x) i = upd (of g i) w x := by
  funext k
  show upd g (71 + 66 * i + w) x (71 + 66 * i + k) = upd (of g i) w x k
  unfold upd of
  by_cases h : k = w
  · rw [if_pos (by omega), if_pos h]
  · rw [if_neg (by omega), if_neg h]
theorem of_adS (g : Nat → Int32) (i w : Nat) (x : Int32) : of (ad g i w x) i = upd (of g i) w (of g i w + x) := of_ptS g i w _
theorem upd_e {f : Nat → Int32} {w : Nat} {x : Int32} : upd f w x w = x := if_pos rfl
theorem upd_o {f : Nat → Int32} {w k : Nat} {x : Int32} (h : ¬ k = w) : upd f w x k = f k := if_neg h
def GH (g : Nat → Int32) : Prop := (-300 ≤ (g 2).toInt ∧ (g 2).toInt ≤ 400) ∧ (1 ≤ (g 4).toInt ∧ (g 4).toInt ≤ 99) ∧ (1 ≤ (g 5).toInt ∧ (g 5).toInt ≤ 48) ∧ (0 ≤ (g 6).toInt ∧ (g 6).toInt ≤ 150) ∧ (0 ≤ (g 7).toInt ∧ (g 7).toInt ≤ 50) ∧ (1 ≤ (g 8).toInt ∧ (g 8).toInt ≤ 50) ∧ (1 ≤ (g 9).toInt ∧ (g 9).toInt ≤ 100) ∧ (0 ≤ (g 10).toInt ∧ (g 10).toInt ≤ 335)
def GRr (T U : Int) (v : Nat → Int32) : Prop := (-300 ≤ (v 0).toInt ∧ (v 0).toInt ≤ 450 + 50 * T) ∧ (1 ≤ (v 3).toInt ∧ (v 3).toInt ≤ 50) ∧ (0 ≤ (v 4).toInt ∧ (v 4).toInt ≤ 50) ∧ (0 ≤ (v 9).toInt ∧ (0 < (v 9).toInt → 50 ≤ (v 8).toInt ∧ (v 8).toInt ≤ 300)) ∧ (0 ≤ (v 10).toInt ∧ (v 10).toInt ≤ 100 * U) ∧ (0 < (v 11).toInt ∧ (v 11).toInt < 27 ^ 6)
def GR (T U : Int) (g : Nat → Int32) (i : Nat) : Prop := RG g i ∧ GRr T U (of g i)
def GG (T : Int) (g : Nat → Int32) : Prop := VG T g ∧ GH g ∧ PLN g ∧ (∀ k, k < pn g → 0 ≤ (g (11 + 3 * k)).toInt ∧ (g (11 + 3 * k)).toInt ≤ 300000) ∧ ∀ i, i < rn g → GR T T g i
theorem GRr.cg {T U : Int} {v v' : Nat → Int32} (h : GRr T U v) (e : ∀ k, k < 12 → v' k = v k) : GRr T U v' := by
  unfold GRr
  rw [e 0 (by decide), e 3 (by decide), e 4 (by decide), e 8 (by decide), e 9 (by decide), e 10 (by decide), e 11 (by decide)]
  exact h
theorem GRr.up {T U : Int} {v : Nat → Int32} {w : Nat} {x : Int32} (h : GRr T U v) (hw : w = 1 ∨ w = 2 ∨ w = 5 ∨ w = 6 ∨ w = 7 ∨ 12 ≤ w) : GRr T U (upd v w x) := by
  have e : ∀ k, (k = 0 ∨ k = 3 ∨ k = 4 ∨ k = 8 ∨ k = 9 ∨ k = 10 ∨ k = 11) → upd v w x k = v k := fun k hk => upd_o (by omega)
  unfold GRr
  rw [e 0 (by decide), e 3 (by decide), e 4 (by decide), e 8 (by decide), e 9 (by decide), e 10 (by decide), e 11 (by decide)]
  exact h
theorem GRr.mono {T T' U U' : Int} {v : Nat → Int32} (h : GRr T U v) (hT : T ≤ T') (hU : U ≤ U') : GRr T' U' v := by
  obtain ⟨⟨a1, a2⟩, b, c, d, ⟨e1, e2⟩, f⟩ := h
  exact ⟨⟨a1, by omega⟩, b, c, d, ⟨e1, by omega⟩, f⟩
theorem GR.mono {T T' U U' : Int} {g : Nat → Int32} {i : Nat} (h : GR T U g i) (hT : T ≤ T') (hU : U ≤ U') : GR T' U' g i := ⟨h.1, h.2.mono hT hU⟩
theorem GR.cg {T U : Int} {g g' : Nat → Int32} {i : Nat} (h : GR T U g i) (e : ∀ w, w < 12 → of g' i w = of g i w) : GR T U g' i := ⟨h.1.of (e 1 (by decide)) (e 2 (by decide)) (e 5 (by decide)) (e 6 (by decide)), h.2.cg e⟩
theorem GR_rst {T U : Int} {g g' : Nat → Int32} {i : Nat} (e : rst i g = rst i g') (h : GR T U g' i) : GR T U g i :=
  ⟨h.1.of (rst_of e (by decide)) (rst_of e (by decide)) (rst_of e (by decide)) (rst_of e (by decide)), h.2.cg (fun _ hk => rst_of e (by omega))⟩
theorem GG.mono {T T' : Int} {g : Nat → Int32} (h : GG T g) (hT : T ≤ T') : GG T' g := ⟨VG_le h.1 hT, h.2.1, h.2.2.1, h.2.2.2.1, fun i hi => (h.2.2.2.2 i hi).mono hT hT⟩
theorem GG.e0 {T : Int} {g : Nat → Int32} (h : GG T g) : g 0 = nI (rn g) := (VG_rn h.1).1
theorem GG.e3 {T : Int} {g : Nat → Int32} (h : GG T g) : g 3 = nI (pn g) := (VG_pn h.1).1
theorem GG.rn6 {T : Int} {g : Nat → Int32} (h : GG T g) : rn g ≤ 6 := (VG_rn h.1).2
theorem GG.pn20 {T : Int} {g : Nat → Int32} (h : GG T g) : pn g ≤ 20 := (VG_pn h.1).2
theorem GG.t0 {T : Int} {g : Nat → Int32} (h : GG T g) : 0 ≤ (g 1).toInt := h.1.1.1
theorem GG.tT {T : Int} {g : Nat → Int32} (h : GG T g) : (g 1).toInt ≤ T := h.1.1.2
theorem GG.T0 {T : Int} {g : Nat → Int32} (h : GG T g) : 0 ≤ T := Int.le_trans h.t0 h.tT
theorem GG.RG {T : Int} {g : Nat → Int32} {i : Nat} (h : GG T g) (hi : i < rn g) : RG g i := (h.2.2.2.2 i hi).1
theorem GG.PT {T : Int} {g : Nat → Int32} (h : GG T g) (i : Nat) : PT (pg g i) := h.1.2.2.2.2 i
theorem GG.pre {T : Int} {g : Nat → Int32} {i : Nat} (h : GG T g) (hi : i < rn g) : of g i 6 = 0 ∨ of g i 6 = 1 := (h.RG hi).2.2.2
theorem GG.opn {T : Int} {g : Nat → Int32} {i : Nat} (h : GG T g) (hi : i < rn g) : of g i 5 = 0 ∨ of g i 5 = 1 := (h.RG hi).2.2.1
/-- rounding down -/
theorem xor_neg (x : Int32) {y : Int32} (hy : 0 ≤ y.toInt) : (x ^^^ y) < 0 ↔ x.toInt < 0 := by
  rw [Int32.lt_iff_toInt_lt, Int32.toInt_zero]
  have e : ∀ z : Int32, z.toBitVec.msb = decide (z.toInt < 0) := fun z => BitVec.msb_eq_toInt
  have h1 : (x ^^^ y).toBitVec.msb = (x.toBitVec.msb ^^ y.toBitVec.msb) := by rw [Int32.toBitVec_xor, BitVec.msb_xor]
  rw [e, e, e, decide_eq_false (p := y.toInt < 0) (by omega), Bool.xor_false] at h1
  exact decide_eq_decide.mp h1
theorem i_fdiv_i (x : Int32) : (i_fdiv x 100).toInt = x.toInt / 100 := by
  have k : (100 : Int32).toInt = 100 := by decide
  have hx1 := x.toInt_lt
  have hx2 := x.le_toInt
  have hd : (x / 100).toInt = x.toInt.tdiv 100 := by
    rw [Int32.toInt_div, k]
    refine Int.bmod_eq_of_le ?_ ?_
    · rcases Int.le_total 0 x.toInt with h | h
      · rw [Int.tdiv_eq_ediv_of_nonneg h]; omega
      · have e : x.toInt = -(-x.toInt) := by omega
        rw [e, Int.neg_tdiv, Int.tdiv_eq_ediv_of_nonneg (by omega)]; omega
    · rcases Int.le_total 0 x.toInt with h | h
      · rw [Int.tdiv_eq_ediv_of_nonneg h]; omega
      · have e : x.toInt = -(-x.toInt) := by omega
        rw [e, Int.neg_tdiv, Int.tdiv_eq_ediv_of_nonneg (by omega)]; omega
  have hq : (x.toInt.tdiv 100 = x.toInt / 100 ∧ 0 ≤ x.toInt) ∨ (x.toInt.tdiv 100 = -((-x.toInt) / 100) ∧ x.toInt < 0) := by
    rcases Int.lt_or_le x.toInt 0 with h | h
    · right
      have e : x.toInt = -(-x.toInt) := by omega
      refine ⟨?_, h⟩
      rw [show x.toInt.tdiv 100 = (-(-x.toInt)).tdiv 100 by rw [← e], Int.neg_tdiv, Int.tdiv_eq_ediv_of_nonneg (by omega)]
    · exact Or.inl ⟨Int.tdiv_eq_ediv_of_nonneg h, h⟩
  have hm : (x / 100 * 100).toInt = x.toInt.tdiv 100 * 100 := by
    rw [i_mul (by rw [hd, k]; omega) (by rw [hd, k]; omega), hd, k]
  unfold i_fdiv
  have hx : (x ^^^ 100) < 0 ↔ x.toInt < 0 := xor_neg x (by rw [k]; omega)
  have he : x / 100 * 100 = x ↔ x.toInt.tdiv 100 * 100 = x.toInt := by rw [← Int32.toInt_inj, hm]
  by_cases h : (x ^^^ 100) < 0 ∧ ¬ x / 100 * 100 = x
  · rw [if_pos h]
    have h1 := hx.mp h.1
    have h2 : ¬ x.toInt.tdiv 100 * 100 = x.toInt := fun z => h.2 (he.mpr z)
    have k1 : (1 : Int32).toInt = 1 := by decide
    rw [i_sub (by rw [hd, k1]; omega) (by rw [hd, k1]; omega), hd, k1]
    omega
  · rw [if_neg h, hd]
    by_cases h1 : x.toInt < 0
    · have h2 : x.toInt.tdiv 100 * 100 = x.toInt := Classical.byContradiction (fun z => h ⟨hx.mpr h1, fun w => z (he.mp w)⟩)
      omega
    · omega
theorem warm_t {t v p l o : Int32} {T : Int} (ht : -300 ≤ t.toInt ∧ t.toInt ≤ 450 + 50 * T) (hv : 0 ≤ v.toInt ∧ v.toInt ≤ 100) (hp : 1 ≤ p.toInt ∧ p.toInt ≤ 50) (hl : 0 ≤ l.toInt ∧ l.toInt ≤ 60) (ho : -300 ≤ o.toInt ∧ o.toInt ≤ 400) (h0 : 0 ≤ T) (hT : T ≤ 200000) :
    -300 ≤ (t + i_fdiv (v * p) 100 - i_fdiv (l * (t - o)) 100).toInt ∧ (t + i_fdiv (v * p) 100 - i_fdiv (l * (t - o)) 100).toInt ≤ 450 + 50 * (T + 1) := by
  have m1 : 0 ≤ v.toInt * p.toInt := Int.mul_nonneg hv.1 (by omega)
  have m2 : v.toInt * p.toInt ≤ 100 * 50 := Int.mul_le_mul hv.2 hp.2 (by omega) (by omega)
  have e1 : (v * p).toInt = v.toInt * p.toInt := i_mul (by omega) (by omega)
  have ed : (t - o).toInt = t.toInt - o.toInt := i_sub (by omega) (by omega)
  have m3 : (0 ≤ t.toInt - o.toInt ∧ 0 ≤ l.toInt * (t.toInt - o.toInt) ∧ l.toInt * (t.toInt - o.toInt) ≤ 60 * (t.toInt - o.toInt)) ∨ (t.toInt - o.toInt ≤ 0 ∧ l.toInt * (t.toInt - o.toInt) ≤ 0 ∧ 60 * (t.toInt - o.toInt) ≤ l.toInt * (t.toInt - o.toInt)) := by
    rcases Int.le_total 0 (t.toInt - o.toInt) with h | h
    · exact Or.inl ⟨h, Int.mul_nonneg hl.1 h, Int.mul_le_mul_of_nonneg_right hl.2 h⟩
    · refine Or.inr ⟨h, ?_, Int.mul_le_mul_of_nonpos_right hl.2 h⟩
      have := Int.mul_le_mul_of_nonpos_right hl.1 h
      rw [Int.zero_mul] at this
      exact this
  have e2 : (l * (t - o)).toInt = l.toInt * (t.toInt - o.toInt) := by
    rw [i_mul (by rw [ed]; omega) (by rw [ed]; omega), ed]
  have f1 := i_fdiv_i (v * p)
  have f2 := i_fdiv_i (l * (t - o))
  rw [e1] at f1
  rw [e2] at f2
  generalize v.toInt * p.toInt = A at *
  generalize l.toInt * (t.toInt - o.toInt) = B at *
  have s1 : (t + i_fdiv (v * p) 100).toInt = t.toInt + A / 100 := by rw [i_add (by rw [f1]; omega) (by rw [f1]; omega), f1]
  have s2 : (t + i_fdiv (v * p) 100 - i_fdiv (l * (t - o)) 100).toInt = t.toInt + A / 100 - B / 100 := by rw [i_sub (by rw [s1, f2]; omega) (by rw [s1, f2]; omega), s1, f2]
  rw [s2]
  omega
theorem GRr_warm {T U : Int} {g : Nat → Int32} {i : Nat} (h : GR T U g i) (hh : GH g) (h0 : 0 ≤ T) (hT : T ≤ 200000) : GRr (T + 1) U (of (f_warm i g) i) := by
  have k10 : (10 : Int32).toInt = 10 := by decide
  have k0 : (0 : Int32).toInt = 0 := by decide
  obtain ⟨hg, h1, h3, h4, h9, h10, h11⟩ := h
  have hl : 0 ≤ (of g i 4 + if of g i 5 = 1 then 10 else 0).toInt ∧ (of g i 4 + if of g i 5 = 1 then 10 else 0).toInt ≤ 60 := by
    by_cases e : of g i 5 = 1
    · rw [if_pos e, i_add (by rw [k10]; omega) (by rw [k10]; omega), k10]; omega
    · rw [if_neg e, i_add (by rw [k0]; omega) (by rw [k0]; omega), k0]; omega
  have hw := warm_t h1 hg.1 h3 hl hh.1 h0 hT
  have s1 : GRr (T + 1) U (of (f_warm1 i g) i) := by
    unfold f_warm1
    rw [of_ptS]
    unfold GRr
    rw [upd_e, upd_o (k := 3) (by decide), upd_o (k := 4) (by decide), upd_o (k := 8) (by decide), upd_o (k := 9) (by decide), upd_o (k := 10) (by decide), upd_o (k := 11) (by decide)]
    exact ⟨hw, h3, h4, h9, h10, h11⟩
  unfold f_warm f_warm2
  split
  · rw [of_adS, of_ptS]
    exact (s1.up (by decide)).up (by decide)
  · split
    · rw [of_adS]
      exact s1.up (by decide)
    · exact s1
theorem GRr_over {T U : Int} {g : Nat → Int32} {i : Nat} (h : GRr T U (of g i)) : GRr T U (of (f_over i g) i) := by
  unfold f_over
  split
  · rename_i h9
    rw [Int32.lt_iff_toInt_lt, Int32.toInt_zero] at h9
    obtain ⟨h1, h3, h4, ⟨q9, q8⟩, h10, h11⟩ := h
    have k1 : (-1 : Int32).toInt = -1 := by decide
    have hx := (of g i 9).toInt_lt
    have e9 : (of g i 9 + -1).toInt = (of g i 9).toInt - 1 := by rw [i_add (by rw [k1]; omega) (by rw [k1]; omega), k1]; omega
    rw [of_adS]
    unfold GRr
    rw [upd_e, upd_o (k := 0) (by decide), upd_o (k := 3) (by decide), upd_o (k := 4) (by decide), upd_o (k := 8) (by decide), upd_o (k := 10) (by decide), upd_o (k := 11) (by decide), e9]
    exact ⟨h1, h3, h4, ⟨by omega, fun _ => q8 h9⟩, h10, h11⟩
  · exact h
theorem GRr_drive {T U : Int} {g : Nat → Int32} {i : Nat} (to most : Int32) (h : GRr T U (of g i)) : GRr T U (of (f_drive i to most g) i) := by
  unfold f_drive
  rw [of_adS, of_adS, of_adS]
  exact ((h.up (by decide)).up (by decide)).up (by decide)
theorem GRr_exif {T U : Int} {g : Nat → Int32} {i : Nat} (h : GRr T U (of g i)) : GRr T U (of (f_exif i g) i) := by
  unfold f_exif
  split
  · unfold f_ex
    rw [of_adS]
    exact (GRr_drive _ _ (GRr_drive _ _ (GRr_drive _ _ h))).up (by decide)
  · exact h
theorem GR_FXw {T U : Int} {g : Nat → Int32} {i : Nat} (h : GR T U g i) (hh : GH g) (h0 : 0 ≤ T) (hT : T ≤ 200000) : GR (T + 1) U (FXw i g) i :=
  ⟨RG_exif (RG_over (RG_warm h.1)), GRr_exif (GRr_over (GRr_warm h hh h0 hT))⟩
theorem back_b {P : Nat → Int32} (h : PT P) (t : Nat) : back P t = 0 ∨ (50 ≤ (back P t).toInt ∧ (back P t).toInt ≤ 300) := by
  cases hc : cnt P t with
  | zero => exact Or.inl (back_0 t hc)
  | succ i =>
    obtain ⟨s, -, h1, -, h2⟩ := back_nth t hc
    rw [h2]
    exact h.2 s
theorem told_b {P : Nat → Int32} (h : PT P) (t : Nat) : 50 ≤ (told P t).toInt ∧ (told P t).toInt ≤ 300 := by
  have k : (200 : Int32).toInt = 200 := by decide
  unfold told
  split
  · split
    · rw [k]; omega
    · rename_i h2; exact (back_b h 48).resolve_left h2
  · rename_i h2; exact (back_b h (t + 1)).resolve_left h2
theorem tgt_b {T U : Int} {g : Nat → Int32} {i : Nat} (h : GRr T U (of g i)) (hh : GH g) (hP : PT (pg g i)) : -100 ≤ (tgt g i).toInt ∧ (tgt g i).toInt ≤ 300 := by
  have ht := told_b hP (tod g)
  have k0 : (0 : Int32).toInt = 0 := by decide
  unfold tgt
  split
  · rename_i h9
    rw [Int32.lt_iff_toInt_lt, Int32.toInt_zero] at h9
    have := h.2.2.2.1.2 h9
    omega
  · have h6 := hh.2.2.2.1
    split
    · rw [i_sub (by rw [k0]; omega) (by rw [k0]; omega), k0]; omega
    · rw [i_sub (by omega) (by omega)]; omega
theorem mis_b {T U : Int} {g : Nat → Int32} {i : Nat} (h : GRr T U (of g i)) (hh : GH g) (hP : PT (pg g i)) (h0 : 0 ≤ T) (hT : T ≤ 300000) : (mis g i).toInt = (tgt g i).toInt - (of g i 0).toInt ∧ -100 - 450 - 50 * T ≤ (mis g i).toInt ∧ (mis g i).toInt ≤ 600 := by
  have ht := tgt_b h hh hP
  have h1 := h.1
  have e : (mis g i).toInt = (tgt g i).toInt - (of g i 0).toInt := i_sub (by omega) (by omega)
  refine ⟨e, ?_, ?_⟩ <;> omega
theorem OV_ok {T U : Int} {g : Nat → Int32} {i : Nat} (h : GRr T U (of g i)) (hh : GH g) (hP : PT (pg g i)) (h0 : 0 ≤ T) (hT : T ≤ 300000) : OV g i := by
  obtain ⟨e, h1, h2⟩ := mis_b h hh hP h0 hT
  have h8 := hh.2.2.2.2.2.1
  unfold OV
  generalize (mis g i).toInt = m at *
  generalize (g 8).toInt = k at *
  rcases Int.le_total 0 m with q | q
  · have a1 := Int.mul_nonneg (show 0 ≤ k by omega) q
    have a2 : k * m ≤ 50 * 600 := Int.mul_le_mul h8.2 h2 q (by omega)
    omega
  · have a1 := Int.mul_le_mul_of_nonpos_right h8.2 q
    have a2 := Int.mul_le_mul_of_nonpos_right (show 0 ≤ k by omega) q
    rw [Int.zero_mul] at a2
    omega
theorem GG.OV {T : Int} {g : Nat → Int32} {i : Nat} (h : GG T g) (hi : i < rn g) (hT : T ≤ 300000) : OV g i := OV_ok (h.2.2.2.2 i hi).2 h.2.1 (h.PT i) h.T0 hT
theorem GH.cg {g g' : Nat → Int32} (h : GH g) (e : ∀ k, k < 11 → ¬ k = 0 → ¬ k = 1 → ¬ k = 3 → g' k = g k) : GH g' := by
  unfold GH
  rw [e 2 (by decide) (by decide) (by decide) (by decide), e 4 (by decide) (by decide) (by decide) (by decide), e 5 (by decide) (by decide) (by decide) (by decide), e 6 (by decide) (by decide) (by decide) (by decide), e 7 (by decide) (by decide) (by decide) (by decide), e 8 (by decide) (by decide) (by decide) (by decide), e 9 (by decide) (by decide) (by decide) (by decide), e 10 (by decide) (by decide) (by decide) (by decide)]
  exact h
theorem GH.kp {g g' : Nat → Int32} (h : GH g) (e : kp g g') : GH g' := h.cg (fun k hk _ _ _ => e.2 k (by omega))
/-- a room that goes on -/
theorem GR_goOn {T : Int} {g : Nat → Int32} {i : Nat} (h : GR T T g i) (hh : GH g) (hP : PT (pg g i)) (h0 : 0 ≤ T) (hT : T ≤ 200000) : GR (T + 1) (T + 1) (f_goOn i g) i ∧ OV (FXw i g) i := by
  have h1 := GR_FXw h hh h0 hT
  have hk : kp g (FXw i g) := (kp_warm g i).tr ((kp_over _ i).tr (kp_exif _ i))
  have hh1 := hh.kp hk
  have ho : OV (FXw i g) i := OV_ok h1.2 hh1 (by rw [hk.1 i]; exact hP) (by omega) (by omega)
  refine ⟨?_, ho⟩
  have hw := wnt_i h1.1 ho
  have h9 := hh1.2.2.2.2.2.2.1
  have r1 := RG_drive h1.1 hw (most := FXw i g 9) (by omega)
  have g1 := GRr_drive (wnt (FXw i g) i) (FXw i g 9) h1.2
  show GR (T + 1) (T + 1) (f_heat i (f_empty i (f_away i (wnt (FXw i g) i) (f_drive i (wnt (FXw i g) i) (FXw i g 9) (FXw i g))))) i
  generalize f_drive i (wnt (FXw i g) i) (FXw i g 9) (FXw i g) = d at r1 g1 ⊢
  generalize wnt (FXw i g) i = w at *
  have r2 : RG (f_empty i (f_away i w d)) i := RG_ad (RG_ad r1 _ (by decide) (by decide) (by decide) (by decide) (by decide)) _ (by decide) (by decide) (by decide) (by decide) (by decide)
  have g2 : GRr (T + 1) T (of (f_empty i (f_away i w d)) i) := by
    unfold f_empty f_away
    rw [of_adS, of_adS]
    exact (g1.up (by decide)).up (by decide)
  generalize f_empty i (f_away i w d) = e at r2 g2 ⊢
  refine ⟨RG_ad r2 _ (by decide) (by decide) (by decide) (by decide) (by decide), ?_⟩
  obtain ⟨q1, q3, q4, q9, q10, q11⟩ := g2
  have hv := r2.1
  have eh : (of e i 10 + of e i 1).toInt = (of e i 10).toInt + (of e i 1).toInt := i_add (by omega) (by omega)
  unfold f_heat
  rw [of_adS]
  unfold GRr
  rw [upd_e, upd_o (k := 0) (by decide), upd_o (k := 3) (by decide), upd_o (k := 4) (by decide), upd_o (k := 8) (by decide), upd_o (k := 9) (by decide), upd_o (k := 11) (by decide), eh]
  exact ⟨q1, q3, q4, q9, ⟨by omega, by omega⟩, q11⟩
theorem GR_carry {T U : Int} {g : Nat → Int32} {i j : Nat} (k : Int32) (h : GR T U g i) : GR T U (f_carry j k g) i := by
  by_cases e : i = j
  · subst e
    unfold f_carry
    have b0 : ∀ x : Int32, (if x = 0 then (1 : Int32) else 0) = 0 ∨ (if x = 0 then (1 : Int32) else 0) = 1 := fun x => by split <;> decide
    have b2 : ∀ x : Int32, (if x = 2 then (1 : Int32) else 0) = 0 ∨ (if x = 2 then (1 : Int32) else 0) = 1 := fun x => by split <;> decide
    have s : GR T U (if k = 0 ∨ k = 1 then pt g i 5 (if k = 0 then 1 else 0) else pt g i 6 (if k = 2 then 1 else 0)) i := by
      split
      · refine ⟨?_, by rw [of_ptS]; exact h.2.up (by decide)⟩
        have e5 := congrFun (of_ptS g i 5 (if k = 0 then 1 else 0))
        unfold RG
        rw [e5 1, e5 2, e5 5, e5 6, upd_e, upd_o (k := 1) (by decide), upd_o (k := 2) (by decide), upd_o (k := 6) (by decide)]
        exact ⟨h.1.1, h.1.2.1, b0 k, h.1.2.2.2⟩
      · refine ⟨?_, by rw [of_ptS]; exact h.2.up (by decide)⟩
        have e5 := congrFun (of_ptS g i 6 (if k = 2 then 1 else 0))
        unfold RG
        rw [e5 1, e5 2, e5 5, e5 6, upd_e, upd_o (k := 1) (by decide), upd_o (k := 2) (by decide), upd_o (k := 5) (by decide)]
        exact ⟨h.1.1, h.1.2.1, h.1.2.2.1, b2 k⟩
    refine ⟨RG_ad s.1 _ (by decide) (by decide) (by decide) (by decide) (by decide), ?_⟩
    rw [of_adS]
    exact s.2.up (by decide)
  · exact GR_rst (carry_oth e k g) h
theorem GR_cars {T U : Int} {g : Nat → Int32} {i : Nat} (h : GR T U g i) : ∀ k, GR T U (f_cars g k) i
  | 0 => h
  | k + 1 => GR_carry _ (GR_cars h k)
theorem due_hdr (g : Nat → Int32) {k : Nat} (hk : k < 11) (h1 : ¬ k = 1) (h3 : ¬ k = 3) : f_due (f_time g) k = g k := by
  unfold f_due
  rw [drop_lo hk h3, (kp_cars _ _).2 k (by omega)]
  exact if_neg h1
theorem GG_due {T : Int} {g : Nat → Int32} (h : GG T g) (hT : T ≤ 200000) : VG (T + 1) (f_due (f_time g)) ∧ GH (f_due (f_time g)) ∧ PLN (f_due (f_time g)) ∧ (∀ k, k < pn (f_due (f_time g)) → 0 ≤ (f_due (f_time g) (11 + 3 * k)).toInt ∧ (f_due (f_time g) (11 + 3 * k)).toInt ≤ 300000) ∧ rn (f_due (f_time g)) = rn g ∧ ∀ i, i < rn g → GR T T (f_due (f_time g)) i := by
  have h20 := h.pn20
  have ek : ∀ k, ¬ k = 1 → f_time g k = g k := fun k hk => if_neg hk
  have hc : ∀ k, k < 71 → f_cars (f_time g) (dueN (f_time g)) k = f_time g k := fun k hk => (kp_cars _ _).2 k hk
  have ep : pn (f_cars (f_time g) (dueN (f_time g))) = pn g := by rw [pn_cg (hc 3 (by decide)), pn_cg (ek 3 (by decide))]
  have er : rn (f_due (f_time g)) = rn g := due_rn h20
  have hle : dueN (f_time g) ≤ pn g := by have := dueN_le (f_time g); rw [pn_cg (ek 3 (by decide))] at this; exact this
  have e3 : f_due (f_time g) 3 = nI (pn g - dueN (f_time g)) := by
    show f_cars (f_time g) (dueN (f_time g)) 3 - nI (dueN (f_time g)) = _
    rw [hc 3 (by decide), ek 3 (by decide), h.e3, nI_sub hle]
  have ep2 : pn (f_due (f_time g)) = pn g - dueN (f_time g) := by
    show (f_due (f_time g) 3).toInt.toNat = _
    rw [e3, nI_toInt (by omega)]; rfl
  have hpl : ∀ k w, w < 3 → k < pn g - dueN (f_time g) → f_due (f_time g) (11 + 3 * k + w) = g (11 + 3 * (k + dueN (f_time g)) + w) := fun k w hw hk => by
    unfold f_due
    rw [drop_pl hw (by rw [ep]; exact hk), hc _ (by omega), ek _ (by omega)]
  refine ⟨VG_due (VG_time h.1 (by omega)), h.2.1.cg (fun k hk _ h1 h3 => due_hdr g hk h1 h3), fun k hk => ?_, fun k hk => ?_, er, fun i hi => ?_⟩
  · rw [ep2] at hk
    rw [hpl k 1 (by decide) hk, hpl k 2 (by decide) hk, er]
    exact h.2.2.1 (k + dueN (f_time g)) (by omega)
  · rw [ep2] at hk
    rw [show 11 + 3 * k = 11 + 3 * k + 0 from rfl, hpl k 0 (by decide) hk]
    exact h.2.2.2.1 (k + dueN (f_time g)) (by omega)
  · have g0 : GR T T (f_time g) i := (h.2.2.2.2 i hi).cg (fun w _ => ek _ (by omega))
    exact (GR_cars g0 (dueN (f_time g))).cg (fun w _ => drop_hi (by rw [ep]; exact h20) (by omega))
theorem GG_tick {T : Int} {g : Nat → Int32} (h : GG T g) (hT : T ≤ 200000) : GG (T + 1) (f_tick g) ∧ ∀ i, i < rn g → LVok (f_due (f_time g)) i := by
  obtain ⟨hV, hH, hL, hp, er, hR⟩ := GG_due h hT
  have h0 := h.T0
  have hP : ∀ i, PT (pg (f_due (f_time g)) i) := hV.2.2.2.2
  have hk : kp (f_due (f_time g)) (f_tick g) := kp_goOns (f_due (f_time g)) (rn g)
  refine ⟨⟨VG_kp hV hk, hH.kp hk, fun k hk2 => ?_, fun k hk2 => ?_, fun i hi => ?_⟩, fun i hi => ?_⟩
  · have ep := pn_cg (hk.2 3 (by decide))
    have hk3 : k < pn (f_due (f_time g)) := by rw [← ep]; exact hk2
    have h20 := (VG_pn hV).2
    rw [hk.2 _ (by omega), hk.2 _ (by omega), show rn (f_tick g) = rn (f_due (f_time g)) from goOns_rn _ _]
    exact hL k hk3
  · have ep := pn_cg (hk.2 3 (by decide))
    have hk3 : k < pn (f_due (f_time g)) := by rw [← ep]; exact hk2
    have h20 := (VG_pn hV).2
    rw [hk.2 _ (by omega)]
    exact hp k hk3
  · have hi2 : i < rn (f_due (f_time g)) := by rw [show rn (f_tick g) = rn (f_due (f_time g)) from goOns_rn _ _] at hi; exact hi
    have e := goOns_rst (f_due (f_time g)) i (rn g)
    rw [if_pos (by rw [← er]; exact hi2)] at e
    exact GR_rst e (GR_goOn (hR i (by rw [← er]; exact hi2)) hH (hP i) h0 hT).1
  · have q := hR i hi
    exact ⟨q.1, (GR_goOn q hH (hP i) h0 hT).2, hV.1.1, by have := hH.2.2.2.2.2.2.1; omega⟩

