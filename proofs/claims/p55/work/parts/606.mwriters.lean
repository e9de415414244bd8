/-! ValveRoomModel: writeRooms, writeProgram, writePlans. Written by program (wip/whole/gen/m604.py) but for the heads. -/
section JN
variable {own : String} {cc : ByteArray} {nL : Nat} {hh : List (Nat × Nat × Nat × Nat)} {R : Room} {Q : ab_Q} {k z pc : Nat} {ls : List (Option Value)} {st st2 : List Value} {n : Nat} {h : ab_H}
end JN
theorem str_lit {S : SS} {n j : Nat} (hj : j < 56) : STR n (Hp S) (ab_CB + 2 * j) (ab_ks j).length (fun i => (ab_ks j).getD i 0) := by
  have hk : ∀ k, Hp S (ab_CB + k) = ab_kc k := fun k => by
    unfold Hp ly_mk
    have h0 : ¬ ab_CB + k < 3 := by unfold ab_CB; omega
    have h1 : ¬ ab_CB + k < 26 := by unfold ab_CB; omega
    have h2 : ¬ ab_CB + k < 34 := by unfold ab_CB; omega
    have h3 : ¬ ab_CB + k < 80 := by unfold ab_CB; omega
    have h4 : ¬ ab_CB + k < 83 := by unfold ab_CB; omega
    have h5 : ¬ ab_CB + k < 267 := by unfold ab_CB; omega
    have h6 : ¬ ab_CB + k < 269 := by unfold ab_CB; omega
    have h7 : ¬ ab_CB + k < ab_CB := by omega
    rw [if_neg h0, if_neg h1, if_neg h2, if_neg h3, if_neg h4, if_neg h5, if_neg h6, if_neg h7, Nat.add_sub_cancel_left]
  have e1 : ab_kc (2 * j) = .inr (9, [.ref (ab_CB + (2 * j + 1)), .int 0]) := by
    unfold ab_kc
    rw [if_pos (by omega), if_pos (by omega)]
  have e2 : ab_kc (2 * j + 1) = .inl (1, ((ab_ks j).length, .inl (fun i => (ab_ks j).getD i 0))) := by
    unfold ab_kc
    rw [if_pos (by omega), if_neg (by omega), show (2 * j + 1) / 2 = j by omega]
  have hlen : (ab_ks j).length < 2 ^ 31 := Nat.lt_of_le_of_lt ((by decide +kernel : ∀ j, j < 56 → (ab_ks j).length ≤ 40) j hj) (by decide)
  refine ⟨hlen, 9, 2, ab_CB + (2 * j + 1), [], ⟨rfl, ?_, Nat.le_refl _⟩, ⟨Or.inr ⟨2 * j, Or.inl (by omega), by unfold ab_NK; omega, rfl, hk _⟩, (hk _).trans e1⟩, Or.inr ⟨2 * j + 1, Or.inl (by omega), by unfold ab_NK; omega, rfl, hk _⟩, (hk _).trans e2⟩
  intro w hw
  refine inB_J0 w ?_
  obtain ⟨i, hi, rfl⟩ := List.mem_map.mp hw
  exact List.mem_map.mpr ⟨i, List.mem_range.mpr (Nat.lt_of_lt_of_le (List.mem_range.mp hi) (by decide)), rfl⟩
