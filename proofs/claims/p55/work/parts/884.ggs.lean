/-! Changes keep the ranges and the names. -/
def q11 (g g' : Nat → Int32) : Prop := ∀ i, of g' i 11 = of g i 11
theorem q11.rf {g : Nat → Int32} : q11 g g := fun _ => rfl
theorem q11.tr {a b c : Nat → Int32} (h1 : q11 a b) (h2 : q11 b c) : q11 a c := fun i => (h2 i).trans (h1 i)
theorem rn_pt (g : Nat → Int32) (i w : Nat) (x : Int32) : rn (pt g i w x) = rn g := rn_cg (if_neg (by omega))
theorem rn_upd (g : Nat → Int32) {j : Nat} (x : Int32) (h : ¬ j = 0) : rn (upd g j x) = rn g := rn_cg (if_neg (fun z => h z.symm))
theorem rn_drop (g : Nat → Int32) (k m : Nat) : rn (f_drop k m g) = rn g := rn_cg (by
  unfold f_drop
  rw [if_neg (by omega), if_neg (by omega)])
theorem rn_plan (g : Nat → Int32) (t r kk : Int32) : rn (f_plan t r kk g) = rn g := rn_cg (by
  unfold f_plan f_ins
  rw [if_neg (by omega), if_neg (by omega), if_neg (by omega), if_neg (by omega), if_neg (by omega)])
section GW
variable {T U : Int} {g : Nat → Int32} {i : Nat} {x : Int32}
theorem GR_w1 (h : GR T U g i) (hx : 0 ≤ x.toInt ∧ x.toInt ≤ 100) : GR T U (pt g i 1 x) i := by
  obtain ⟨⟨a, b, c, d⟩, q⟩ := h
  unfold GR RG
  rw [of_ptS, upd_e, upd_o (by decide), upd_o (by decide), upd_o (by decide)]
  exact ⟨⟨hx, b, c, d⟩, q.up (Or.inl rfl)⟩
theorem GR_w2 (h : GR T U g i) (hx : 0 ≤ x.toInt) : GR T U (pt g i 2 x) i := by
  obtain ⟨⟨a, b, c, d⟩, q⟩ := h
  unfold GR RG
  rw [of_ptS, upd_e, upd_o (by decide), upd_o (by decide), upd_o (by decide)]
  exact ⟨⟨a, hx, c, d⟩, q.up (Or.inr (Or.inl rfl))⟩
theorem GR_w6 (h : GR T U g i) (hx : x = 0 ∨ x = 1) : GR T U (pt g i 6 x) i := by
  obtain ⟨⟨a, b, c, d⟩, q⟩ := h
  unfold GR RG
  rw [of_ptS, upd_e, upd_o (by decide), upd_o (by decide), upd_o (by decide)]
  exact ⟨⟨a, b, c, hx⟩, q.up (Or.inr (Or.inr (Or.inr (Or.inl rfl))))⟩
theorem GR_w8 (h : GR T U g i) (hx : 50 ≤ x.toInt ∧ x.toInt ≤ 300) : GR T U (pt g i 8 x) i := by
  obtain ⟨⟨a, b, c, d⟩, q1, q2, q3, ⟨q4, q5⟩, q6⟩ := h
  unfold GR RG GRr
  rw [of_ptS, upd_e, upd_o (by decide), upd_o (by decide), upd_o (by decide), upd_o (by decide), upd_o (by decide), upd_o (by decide), upd_o (by decide), upd_o (by decide), upd_o (by decide), upd_o (by decide)]
  exact ⟨⟨a, b, c, d⟩, q1, q2, q3, ⟨q4, fun _ => hx⟩, q6⟩
theorem GR_w9 (h : GR T U g i) (h8 : 50 ≤ (of g i 8).toInt ∧ (of g i 8).toInt ≤ 300) (hx : 0 ≤ x.toInt) : GR T U (pt g i 9 x) i := by
  obtain ⟨⟨a, b, c, d⟩, q1, q2, q3, ⟨q4, q5⟩, q6⟩ := h
  unfold GR RG GRr
  rw [of_ptS, upd_e, upd_o (by decide), upd_o (by decide), upd_o (by decide), upd_o (by decide), upd_o (by decide), upd_o (by decide), upd_o (by decide), upd_o (by decide), upd_o (by decide), upd_o (by decide)]
  exact ⟨⟨a, b, c, d⟩, q1, q2, q3, ⟨hx, fun _ => h8⟩, q6⟩
theorem GG_drop {k : Nat} (h : GG T g) (hk : k < pn g) : GG T (f_drop k 1 g) := by
  have h20 := h.pn20
  have hg3 := h.e3
  have key : ∀ j w, w < 3 → j < pn g - 1 → f_drop k 1 g (11 + 3 * j + w) = g (11 + 3 * (if j < k then j else j + 1) + w) := fun j w hw hj => by
    unfold f_drop
    by_cases hjk : j < k
    · rw [if_neg (by omega), if_neg (by omega), if_pos hjk]
    · rw [if_neg (by omega), if_pos (by omega), if_neg hjk, show 11 + 3 * j + w + 3 * 1 = 11 + 3 * (j + 1) + w by omega]
  have key0 : ∀ j, j < pn g - 1 → f_drop k 1 g (11 + 3 * j) = g (11 + 3 * (if j < k then j else j + 1)) := fun j hj => key j 0 (by decide) hj
  have hj2 : ∀ j, j < pn g - 1 → (if j < k then j else j + 1) < pn g := fun j hj => by split <;> omega
  have lo : ∀ j, j < 11 → ¬ j = 3 → f_drop k 1 g j = g j := fun j hj h3 => by
    unfold f_drop
    rw [if_neg h3, if_neg (by omega)]
  have e3 : (f_drop k 1 g 3).toInt = (pn g : Int) - 1 := by
    show (g 3 - nI 1).toInt = _
    have h0 : (g 3).toInt = (pn g : Int) := by rw [hg3, nI_toInt (by omega)]
    rw [i_subN (by omega) (by omega), h0]
    rfl
  have ep : pn (f_drop k 1 g) = pn g - 1 := by
    show (f_drop k 1 g 3).toInt.toNat = _
    rw [e3]
    omega
  have er := rn_drop g k 1
  have eo : ∀ i w, of (f_drop k 1 g) i w = of g i w := fun i w => drop_hi h20 (by omega)
  have epg : ∀ i, pg (f_drop k 1 g) i = pg g i := fun i => by
    funext t
    unfold pg
    split
    · exact eo _ _
    · rfl
  obtain ⟨⟨v1, v2, v3, v4, v5⟩, gh, pl, p0, gr⟩ := h
  refine ⟨⟨by rw [lo 1 (by decide) (by decide)]; exact v1, by rw [lo 0 (by decide) (by decide)]; exact v2, by rw [e3]; omega, fun j hj => ?_, fun i => by rw [epg]; exact v5 i⟩, ?_, fun j hj => ?_, fun j hj => ?_, fun i hi => ?_⟩
  · rw [ep] at hj
    rw [key j 1 (by decide) hj]
    exact v4 _ (hj2 j hj)
  · unfold GH
    rw [lo 2 (by decide) (by decide), lo 4 (by decide) (by decide), lo 5 (by decide) (by decide), lo 6 (by decide) (by decide), lo 7 (by decide) (by decide), lo 8 (by decide) (by decide), lo 9 (by decide) (by decide), lo 10 (by decide) (by decide)]
    exact gh
  · rw [ep] at hj
    rw [er, key j 1 (by decide) hj, key j 2 (by decide) hj]
    exact pl _ (hj2 j hj)
  · rw [ep] at hj
    rw [key0 j hj]
    exact p0 _ (hj2 j hj)
  · rw [er] at hi
    exact (gr i hi).cg (fun w _ => eo i w)
end GW
