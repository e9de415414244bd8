/-! ValveRoomModel: roomHere, once, the statements but room, program, plan. Written by program (wip/whole/gen/m640.py) but for the heads. -/
theorem fst_cases {P : Nat → Prop} {_ : DecidablePred P} : ∀ r k, fst P r k = -1 ∨ ∃ i, k ≤ i ∧ i < k + r ∧ P i ∧ fst P r k = nI i
  | 0, _ => Or.inl rfl
  | r + 1, k => by
    by_cases h : P k
    · exact Or.inr ⟨k, Nat.le_refl _, by omega, h, if_pos h⟩
    · rcases fst_cases r (k + 1) with e | ⟨i, h1, h2, h3, h4⟩
      · exact Or.inl ((if_neg h).trans e)
      · exact Or.inr ⟨i, by omega, by omega, h3, (if_neg h).trans h4⟩
theorem rnm_cases (g : Nat → Int32) (x : Int32) : rnm g x = -1 ∨ ∃ i, i < rn g ∧ rnm g x = nI i := by
  rcases fst_cases (P := fun r => 0 < x ∧ of g r 11 = x) (rn g) 0 with e | ⟨i, h1, h2, h3, h4⟩
  · exact Or.inl e
  · exact Or.inr ⟨i, by omega, h4⟩
theorem HS.vg {b : Nat → Int32} {N : Nat} {S0 S : SS} {x : PR PST} (h : HS b N S0 S x) : VG 0 (row S) := by
  rw [h.fr.row]
  cases x with
  | inl e => exact h.2.2.2.2
  | inr s =>
    have e : S.1 269 = s.2.1 := h.1.2.2.2.2.1
    rw [e]; exact h.1.2.2.2.2.2.2
theorem GD.row {b : Nat → Int32} {N : Nat} {S0 S : SS} {s : PST} (h : GD b N S0 S s) : row S = s.2.1 := h.1.1.row.trans h.1.2.2.2.2.1
theorem told_lt : ∀ m, m < 32 → ∀ k, k < 5 → (m ||| 2 ^ k) < 32 := by decide +kernel
theorem GD.dd {b : Nat → Int32} {N : Nat} {S0 S : SS} {s : PST} (h : GD b N S0 S s) {f : Nat → Int32} (hf : VG 0 f) : GD b N S0 (su S 269 f) (s.1, f, s.2.2) := by
  obtain ⟨⟨h1, h2, h3, h4, h5, h6, h7⟩, h8, h9⟩ := h
  exact ⟨⟨h1.d _, h2, h3, h4, su_s _ _ _, h6, hf⟩, h8, h9⟩
theorem BD.dd {b : Nat → Int32} {N : Nat} {S0 S : SS} {e : Nat × Nat} (h : BD b N S0 S e) {f : Nat → Int32} (hf : VG 0 f) : BD b N S0 (su S 269 f) e := by
  obtain ⟨h1, h2, h3, h4, h5⟩ := h
  exact ⟨h1.d _, h2, h3, h4, by rw [su_s]; exact hf⟩
theorem BD.vg {b : Nat → Int32} {N : Nat} {S0 S : SS} {e : Nat × Nat} (h : BD b N S0 S e) : VG 0 (S.1 269) := h.2.2.2.2
theorem GD.vg {b : Nat → Int32} {N : Nat} {S0 S : SS} {s : PST} (h : GD b N S0 S s) : VG 0 s.2.1 := h.1.2.2.2.2.2.2
theorem GD.g {b : Nat → Int32} {N : Nat} {S0 S : SS} {s : PST} (h : GD b N S0 S s) : S.1 269 = s.2.1 := h.1.2.2.2.2.1
def hdr (j : Nat) : Prop := ¬ j = 0 ∧ ¬ j = 1 ∧ ¬ j = 3 ∧ j < 11
def yHdr (j : Nat) (y : PR (Nat × PST)) : PR PST := pb y (fun q => .inr (q.2.1, upd q.2.2.1 j (nI q.1), q.2.2.2))
theorem HV.hdr {b : Nat → Int32} {N : Nat} {S0 S : SS} {L : Int32 → Prop} {y : PR (Nat × PST)} {v : Int32} (h : HV b N S0 S L nI y v) {j : Nat} (hj : hdr j) : HS b N S0 (ss S 269 j v) (yHdr j y) := by
  cases y with
  | inl e => exact h.2.dd (upd_hdr _ h.2.vg hj.1 hj.2.1 hj.2.2.1 hj.2.2.2)
  | inr q =>
    have h1 : v = nI q.1 := h.1
    have h2 : GD b N S0 S q.2 := h.2
    show GD b N S0 (su S 269 (upd (S.1 269) j v)) _
    rw [h1, h2.g]
    exact h2.dd (upd_hdr _ h2.vg hj.1 hj.2.1 hj.2.2.1 hj.2.2.2)
