/-! ValveRoomModel: plan, setControl, clearProgram, entry, bestGain, exerciseIn. Written by program (wip/whole/gen/m597.py) but for the heads. -/
theorem VG_prog {T : Int} {g : Nat → Int32} {i t : Nat} {v : Int32} (h : VG T g) (ht : t < 48) (hv : v = 0 ∨ (50 ≤ v.toInt ∧ v.toInt ≤ 300)) : VG T (pt g i (18 + t) v) := by
  have lo (k : Nat) (hk : k < 71) : pt g i (18 + t) v k = g k := pt_lo g v hk
  have ep : pn (pt g i (18 + t) v) = pn g := congrArg (fun x : Int32 => x.toInt.toNat) (lo 3 (by decide))
  have hp := (VG_pn h).2
  refine ⟨by rw [lo 1 (by decide)]; exact h.1, by rw [lo 0 (by decide)]; exact h.2.1, by rw [lo 3 (by decide)]; exact h.2.2.1, fun k hk => ?_, fun i' => ⟨fun t' ht' => if_neg (by omega), fun t' => ?_⟩⟩
  · rw [ep] at hk
    rw [lo _ (by omega)]
    exact h.2.2.2.1 k hk
  · by_cases h48 : t' < 48
    · have e : pg (pt g i (18 + t) v) i' t' = if i' = i ∧ 18 + t' = 18 + t then v else of g i' (18 + t') := (if_pos h48).trans (of_pt g v (by omega) (by omega))
      rw [e]
      split
      · exact hv
      · have := (h.2.2.2.2 i').2 t'
        unfold pg at this
        rw [if_pos h48] at this
        exact this
    · left
      exact if_neg h48
