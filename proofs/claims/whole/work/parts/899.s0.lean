/-! THE FIRST STATE: what the two constructors and the law's two arrays make. -/
def fHn : Nat → Int32 := fun j => match j with
  | 1 => 50
  | 2 => 8
  | 3 => 3
  | 4 => 30
  | 5 => 3
  | 6 => 5
  | 7 => 20
  | 8 => 100
  | _ => 0
def isHb (k : Nat) : Bool := decide (k = 3) || decide (k = 34) || decide (k = 57) || (decide (83 ≤ k) && decide (k < 267) && decide ((k - 83) % 23 = 0))
def s01 (k : Nat) : Nat → Int32 := if isHb k then fHn else if k = 0 then (fun j => if j = 2 then -1 else 0) else if k = 267 then (fun j => if j = 13 then -1 else 0) else if k = 268 then plain else fun _ => 0
def R0 : SR := (fun i => 83 + 23 * i, false, fun _ => none, 33, fun _ => .inl (1, 16, .inl (fun _ => 0)), 0, 0)
def S0 : SS := (s01, fun _ => ab_CB, R0)
theorem s01_b {b o : Nat} (hb : isH b) (ho : o < 23) : s01 (b + o) = if o = 0 then fHn else fun _ => 0 := by
  have e : isHb (b + o) = decide (o = 0) := by
    unfold isHb
    rcases hb with rfl | rfl | rfl | ⟨j, hj, rfl⟩ <;> by_cases h0 : o = 0 <;> simp [h0] <;> omega
  have hl := hb.lt
  have h1 : 3 ≤ b := by rcases hb with rfl | rfl | rfl | ⟨j, hj, rfl⟩ <;> omega
  unfold s01
  rw [e]
  by_cases h0 : o = 0
  · rw [if_pos h0, if_pos (decide_eq_true h0)]
  · rw [if_neg h0, if_neg (by simp [h0]), if_neg (by omega), if_neg (by omega), if_neg (by omega)]
theorem hF_ly {b o : Nat} (ho : o < 23) : hF b o = ly_h b o (if o = 0 then fHn else fun _ => 0) ab_CB R0 := by
  match o, ho with
  | 0, _ => rfl
  | 1, _ => rfl
  | 2, _ => rfl
  | 3, _ => rfl
  | 4, _ => rfl
  | 5, _ => rfl
  | 6, _ => rfl
  | 7, _ => rfl
  | 8, _ => rfl
  | 9, _ => rfl
  | 10, _ => rfl
  | 11, _ => rfl
  | 12, _ => rfl
  | 13, _ => rfl
  | 14, _ => rfl
  | 15, _ => rfl
  | 16, _ => rfl
  | 17, _ => rfl
  | 18, _ => rfl
  | 19, _ => rfl
  | 20, _ => rfl
  | 21, _ => rfl
  | 22, _ => rfl
  | o + 23, h => exact absurd h (by omega)
theorem hF_S0 {b o : Nat} (hb : isH b) (ho : o < 23) : hF b o = Hp S0 (b + o) := by
  show _ = ly_mk (b + o) (s01 (b + o)) ab_CB R0
  rw [ly_at hb ho, s01_b hb ho, hF_ly ho]
/-- all cells behind the constructors -/
def fin0 (h0 : ab_H) : ab_H := ab_up (ab_up (blk h0 0 277 (jn 267 (vF 0 6 2) (mF 267))) 277 (.inl (4, 1, .inr (.inl (fun _ => 0))))) 278 (.inl (5, 1, .inr (.inr (.inr (.inl (fun _ => 0))))))
theorem fin0_e {h0 : ab_H} {k : Nat} (hk : k < 277) : fin0 h0 k = jn 267 (vF 0 6 2) (mF 267) k := by
  unfold fin0
  rw [ab_up_n _ _ (by omega), ab_up_n _ _ (by omega)]
  have := blk_at (h := h0) (b := 0) (m := 277) (E := jn 267 (vF 0 6 2) (mF 267)) hk
  rw [Nat.zero_add] at this
  exact this
theorem vF_house {b o : Nat} (hb : isH b) (ho : o < 23) : vF 0 6 2 (b + o) = hF b o := by
  have hl := hb.lt
  rcases hb with rfl | rfl | rfl | ⟨j, hj, rfl⟩
  · unfold vF
    rw [if_neg (by omega), if_pos (by omega)]
    unfold pF
    rw [if_neg (by omega), if_neg (by omega), if_pos (by omega), show 3 + o - 1 - 2 = o by omega]
  · unfold vF
    rw [if_neg (by omega), if_neg (by omega), if_neg (by omega), if_pos (by omega), show 34 + o - 34 = o by omega, Nat.zero_add]
  · unfold vF
    rw [if_neg (by omega), if_neg (by omega), if_neg (by omega), if_neg (by omega), if_pos (by omega), show 57 + o - 57 = o by omega, Nat.zero_add]
  · unfold vF
    rw [if_neg (by omega), if_neg (by omega), if_neg (by omega), if_neg (by omega), if_neg (by omega), if_neg (by omega), if_neg (by omega), if_neg (by omega), show (83 + 23 * j + o - 83) / 23 = j by omega, show (83 + 23 * j + o - 83) % 23 = o by omega, Nat.zero_add]
theorem fin0_S0 {h0 : ab_H} {k : Nat} (hk : k < 279) : fin0 h0 k = Hp S0 k := by
  by_cases h7 : k < 277
  · rw [fin0_e h7]
    by_cases h26 : k < 267
    · rw [jn_l h26]
      have hs : (∃ b o, isH b ∧ o < 23 ∧ k = b + o) ∨ k = 0 ∨ k = 1 ∨ k = 2 ∨ k = 26 ∨ k = 27 ∨ k = 28 ∨ k = 29 ∨ k = 30 ∨ k = 31 ∨ k = 32 ∨ k = 33 ∨ k = 80 ∨ k = 81 ∨ k = 82 := by
        by_cases a1 : k < 3
        · omega
        · by_cases a2 : k < 26
          · exact Or.inl ⟨3, k - 3, isH_draft, by omega, by omega⟩
          · by_cases a3 : k < 34
            · omega
            · by_cases a4 : k < 57
              · exact Or.inl ⟨34, k - 34, isH_house, by omega, by omega⟩
              · by_cases a5 : k < 80
                · exact Or.inl ⟨57, k - 57, isH_trial, by omega, by omega⟩
                · by_cases a6 : k < 83
                  · omega
                  · exact Or.inl ⟨83 + 23 * ((k - 83) / 23), (k - 83) % 23, Or.inr (Or.inr (Or.inr ⟨(k - 83) / 23, by omega, rfl⟩)), by omega, by omega⟩
      rcases hs with ⟨b, o, hb, ho, rfl⟩ | rfl | rfl | rfl | rfl | rfl | rfl | rfl | rfl | rfl | rfl | rfl | rfl | rfl | rfl
      · rw [vF_house hb ho, hF_S0 hb ho]
      · rfl
      · rfl
      · rfl
      · rfl
      · rfl
      · rfl
      · rfl
      · rfl
      · rfl
      · rfl
      · rfl
      · show Sum.inl (6, 6, Sum.inr (Sum.inr (Sum.inr (Sum.inr (fun q => if q < 6 then some (0 + (83 + 23 * q)) else none))))) = Sum.inl (6, 6, Sum.inr (Sum.inr (Sum.inr (Sum.inr (fun q => if q < 6 then some (83 + 23 * q) else none)))))
        simp only [Nat.zero_add]
      · show Sum.inl (6, 2, Sum.inr (Sum.inr (Sum.inr (Sum.inr (fun q => if q < 2 then some (0 + (221 + 23 * q)) else none))))) = Sum.inl (6, 2, Sum.inr (Sum.inr (Sum.inr (Sum.inr (fun q => if q < 2 then some (221 + 23 * q) else none)))))
        simp only [Nat.zero_add]
      · rfl
    · rw [jn_r (by omega)]
      rcases (show k = 267 ∨ k = 268 ∨ k = 269 ∨ k = 270 ∨ k = 271 ∨ k = 272 ∨ k = 273 ∨ k = 274 ∨ k = 275 ∨ k = 276 by omega) with rfl | rfl | rfl | rfl | rfl | rfl | rfl | rfl | rfl | rfl <;> rfl
  · rcases (show k = 277 ∨ k = 278 by omega) with rfl | rfl
    · unfold fin0
      rw [ab_up_n _ _ (by decide), ab_up_s]
      rfl
    · unfold fin0
      rw [ab_up_s]
      rfl
/-- the house that the constructors lay -/
theorem HH_S0 : HH S0 34 plain (fun _ => True) := by
  refine ⟨⟨isH_house, by rw [rn_plain]; decide, by rw [pn_plain]; decide⟩, fun j hj hj2 => ?_, fun k hk => ?_, fun i hi => ?_⟩
  · show s01 34 j = plain (hm j)
    have e := s01_b (b := 34) (o := 0) isH_house (by decide)
    rw [show s01 34 = fHn from e]
    exact (by decide : ∀ j, j < 12 → ¬ j = 10 → fHn j = plain (hm j)) j hj hj2
  · rw [pn_plain] at hk
    exact absurd hk (Nat.not_lt_zero _)
  · rw [rn_plain] at hi
    exact absurd hi (Nat.not_lt_zero _)
theorem INV_S0 : INV 0 279 0 S0 := by
  have e268 : S0.1 268 = plain := rfl
  refine ⟨⟨Nat.le_refl _, by decide, rfl⟩, ⟨by rw [e268]; exact HH_S0, by rw [e268]; exact GG_plain, fun _ _ => 0, fun _ => 0, fun i hi => ?_, ⟨by decide, fun i hi => ?_⟩⟩, ⟨⟨fun i hi => ⟨i, hi, rfl⟩, fun i j _ _ e => ?_⟩, by decide, rfl, rfl, fun i hi => absurd hi (Nat.not_lt_zero _)⟩, fun s hs => ⟨?_, fun z => ?_⟩, ⟨0, by decide, rfl, rfl, rfl, fun k hk => absurd hk (Nat.not_lt_zero _)⟩, ⟨rfl, rfl⟩, ⟨0, 0, fun _ => 0, ⟨⟨Or.inl rfl, by decide, by decide⟩, rfl, rfl, ⟨Nat.zero_le _, by decide⟩, fun _ => (by decide : 0 ≤ (0 : Int32).toInt ∧ (0 : Int32).toInt < 128)⟩, by decide, by decide, rfl, fun i hi => absurd hi (Nat.not_lt_zero _)⟩⟩
  · rw [e268, rn_plain] at hi
    exact absurd hi (Nat.not_lt_zero _)
  · rw [e268, rn_plain] at hi
    exact absurd hi (Nat.not_lt_zero _)
  · have e2 : 83 + 23 * i = 83 + 23 * j := e
    omega
  · rfl
  · exact absurd rfl z
