/-! ValveRoomModel: good, errs, byteAt, scan, goNext. Written by program (wip/whole/gen/m625.py) but for the heads. -/
def BY (b : Nat → Int32) (N : Nat) : Prop := ∀ k, k < N → -128 ≤ (b k).toInt ∧ (b k).toInt < 128
theorem e2i {x y : Int32} : x = y ↔ x.toInt = y.toInt := Int32.toInt_inj.symm
theorem inr_i {x lo hi : Int32} : inr x lo hi ↔ lo.toInt ≤ x.toInt ∧ x.toInt ≤ hi.toInt := by
  unfold inr
  rw [Int32.le_iff_toInt_le, Int32.le_iff_toInt_le]
theorem l32 : (32 : Int32).toInt = 32 := by decide
theorem l10 : (10 : Int32).toInt = 10 := by decide
theorem l97 : (97 : Int32).toInt = 97 := by decide
theorem l122 : (122 : Int32).toInt = 122 := by decide
theorem l48 : (48 : Int32).toInt = 48 := by decide
theorem l57 : (57 : Int32).toInt = 57 := by decide
theorem kdi (x : Int32) : kd x = if x.toInt = 32 ∨ x.toInt = 10 then 0 else if 97 ≤ x.toInt ∧ x.toInt ≤ 122 then 1 else if 48 ≤ x.toInt ∧ x.toInt ≤ 57 then 2 else 3 := by
  have a0 : (x = 32 ∨ x = 10) ↔ (x.toInt = 32 ∨ x.toInt = 10) := by rw [e2i, e2i, l32, l10]
  have a1 : inr x 97 122 ↔ (97 ≤ x.toInt ∧ x.toInt ≤ 122) := by rw [inr_i, l97, l122]
  have a2 : inr x 48 57 ↔ (48 ≤ x.toInt ∧ x.toInt ≤ 57) := by rw [inr_i, l48, l57]
  unfold kd
  exact ite_congr (propext a0) (fun _ => rfl) (fun _ => ite_congr (propext a1) (fun _ => rfl) (fun _ => ite_congr (propext a2) (fun _ => rfl) (fun _ => rfl)))
theorem kd_1 {x : Int32} : kd x = 1 ↔ 97 ≤ x.toInt ∧ x.toInt ≤ 122 := by
  rw [kdi]
  split
  · exact ⟨fun z => absurd z (by decide), fun z => by omega⟩
  · split
    · exact ⟨fun _ => by assumption, fun _ => rfl⟩
    · split
      · exact ⟨fun z => absurd z (by decide), fun z => absurd z (by assumption)⟩
      · exact ⟨fun z => absurd z (by decide), fun z => absurd z (by assumption)⟩
/-- the parse's frame: what no step of it writes; the bytes, their number -/
def FRP (b : Nat → Int32) (N : Nat) (S0 S : SS) : Prop := S.2 = S0.2 ∧ mr S0 = 269 ∧ (∀ k, ¬ k = 267 → ¬ k = 269 → ¬ k = 272 → S.1 k = S0.1 k) ∧ (∀ j, (j < 8 ∨ 13 < j) → S.1 267 j = S0.1 267 j) ∧ S0.1 267 7 = nI N ∧ N ≤ 500 ∧ S0.1 271 = b ∧ BY b N
theorem FRP.mr {b : Nat → Int32} {N : Nat} {S0 S : SS} (h : FRP b N S0 S) : mr S = 269 := (mr_2 h.1).trans h.2.1
theorem FRP.row {b : Nat → Int32} {N : Nat} {S0 S : SS} (h : FRP b N S0 S) : row S = S.1 269 := congrArg S.1 h.mr
theorem FRP.le {b : Nat → Int32} {N : Nat} {S0 S : SS} (h : FRP b N S0 S) : N ≤ 500 := h.2.2.2.2.2.1
theorem FRP.w {b : Nat → Int32} {N : Nat} {S0 S : SS} (h : FRP b N S0 S) {j : Nat} (hj : 8 ≤ j ∧ j ≤ 13) (x : Int32) : FRP b N S0 (ss S 267 j x) :=
  ⟨h.1, h.2.1, fun k h1 h2 h3 => (if_neg h1).trans (h.2.2.1 k h1 h2 h3), fun i hi => (show (if i = j then x else S.1 267 i) = _ from if_neg (by omega)).trans (h.2.2.2.1 i hi), h.2.2.2.2⟩
theorem FRP.d {b : Nat → Int32} {N : Nat} {S0 S : SS} (h : FRP b N S0 S) (f : Nat → Int32) : FRP b N S0 (su S 269 f) :=
  ⟨h.1, h.2.1, fun k h1 h2 h3 => (if_neg h2).trans (h.2.2.1 k h1 h2 h3), fun i hi => h.2.2.2.1 i hi, h.2.2.2.2⟩
def TOLD (S : SS) (m : Nat) : Prop := m < 32 ∧ ∀ k, k < 5 → S.1 272 k = if m.testBit k then 1 else 0
/-- all is well, the next byte is q's -/
def PS (b : Nat → Int32) (N : Nat) (S0 S : SS) (q : Nat) (g : Nat → Int32) (m : Nat) : Prop := FRP b N S0 S ∧ (S.1 267 8 = nI q ∧ q ≤ N) ∧ S.1 267 12 = 0 ∧ S.1 267 13 = -1 ∧ S.1 269 = g ∧ TOLD S m ∧ VG 0 g
theorem PS.q {b : Nat → Int32} {N : Nat} {S0 S : SS} {q m : Nat} {g : Nat → Int32} (h : PS b N S0 S q g m) {q' : Nat} (hq : q' ≤ N) : PS b N S0 (ss S 267 8 (nI q')) q' g m :=
  ⟨h.1.w (by omega) _, ⟨rfl, hq⟩, h.2.2.1, h.2.2.2.1, h.2.2.2.2⟩
theorem PS.w {b : Nat → Int32} {N : Nat} {S0 S : SS} {q m : Nat} {g : Nat → Int32} (h : PS b N S0 S q g m) {j : Nat} (hj : j = 9 ∨ j = 10 ∨ j = 11) (x : Int32) : PS b N S0 (ss S 267 j x) q g m := by
  rcases hj with rfl | rfl | rfl <;> exact ⟨h.1.w (by omega) _, h.2⟩
/-- a token that begins at p stands next -/
def GD (b : Nat → Int32) (N : Nat) (S0 S : SS) (s : PST) : Prop := PS b N S0 S (te b N s.1) s.2.1 s.2.2 ∧ S.1 267 9 = nI s.1 ∧ VP b N s.1 ∧ S.1 267 10 = nI (tk b N s.1) ∧ (tk b N s.1 = 2 → S.1 267 11 = nI (vl b N s.1)) ∧ (tk b N s.1 = 3 → S.1 267 11 = b s.1 &&& 255)
/-- an error is told -/
def BD (b : Nat → Int32) (N : Nat) (S0 S : SS) (e : Nat × Nat) : Prop := FRP b N S0 S ∧ S.1 267 12 = nI e.1 ∧ (0 < e.1 ∧ e.1 < 6) ∧ S.1 267 13 = nI e.2 ∧ VG 0 (S.1 269)
def HS (b : Nat → Int32) (N : Nat) (S0 S : SS) (x : PR PST) : Prop := match x with
  | .inl e => BD b N S0 S e
  | .inr s => GD b N S0 S s
theorem HS.fr {b : Nat → Int32} {N : Nat} {S0 S : SS} {x : PR PST} (h : HS b N S0 S x) : FRP b N S0 S := by
  cases x with
  | inl e => exact h.1
  | inr s => exact h.1.1
