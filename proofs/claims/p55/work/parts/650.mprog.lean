/-! ValveRoomModel: programs and plans. Written by program (wip/whole/gen/m650.py) but for the heads. -/
theorem HV.ex {b : Nat → Int32} {N lo hi : Nat} {S0 S : SS} {y : PR (Nat × PST)} {v : Int32} (h : HV b N S0 S (fun v => v = nI lo) nI y v) (hlh : lo ≤ hi) (hy : ∀ q, y = .inr q → lo ≤ q.1 ∧ q.1 ≤ hi) : ∃ t, lo ≤ t ∧ t ≤ hi ∧ v = nI t ∧ ∀ q, y = .inr q → t = q.1 := by
  cases y with
  | inl e => exact ⟨lo, Nat.le_refl _, hlh, h.1, fun q e => by cases e⟩
  | inr q => exact ⟨q.1, (hy q rfl).1, (hy q rfl).2, h.1, fun q' e => by cases e; rfl⟩
theorem pSym_gt {b : Nat → Int32} {N p q : Nat} {c : Int32} (h : pSym b N c p = .inr q) : p < q := by
  unfold pSym at h
  split at h
  · rename_i hs
    cases h
    exact nx_gt (tk_lt (b := b) (by rw [(isS_iff.mp hs).1]; decide))
  · cases h
