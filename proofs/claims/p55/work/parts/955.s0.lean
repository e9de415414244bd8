/-! THE FIRST STATE: what the constructors make; the law's first steps. -/
def fHn : Nat → Int32 := fun j => match j with
  | 1 => 50
  | 2 => 8
  | 3 => 3
  | 4 => 30
  | 5 => 3
  | 6 => 5
  | 7 => 20
  | 8 => 100
  | _ => 0
def isHb (k : Nat) : Bool := decide (k = 3) || decide (k = 34) || decide (k = 57) || (decide (83 ≤ k) && decide (k < 267) && decide ((k - 83) % 23 = 0))
def s01 (k : Nat) : Nat → Int32 := if isHb k then fHn else if k = 0 then (fun j => if j = 2 then -1 else 0) else fun _ => 0
def R0 : SR := (fun i => 83 + 23 * i, false, fun _ => none, 268, fun _ => .inl (1, 16, .inl (fun _ => 0)), 0, 0)
def S0 : SS := (s01, fun _ => ab_CB, R0)
theorem s01_b {b o : Nat} (hb : isH b) (ho : o < 23) : s01 (b + o) = if o = 0 then fHn else fun _ => 0 := by
  have e : isHb (b + o) = decide (o = 0) := by
    unfold isHb
    rcases hb with rfl | rfl | rfl | ⟨j, hj, rfl⟩ <;> by_cases h0 : o = 0 <;> simp [h0] <;> omega
  have hl := hb.lt
  have h1 : 3 ≤ b := by rcases hb with rfl | rfl | rfl | ⟨j, hj, rfl⟩ <;> omega
  unfold s01
  rw [e]
  by_cases h0 : o = 0
  · rw [if_pos h0, if_pos (decide_eq_true h0)]
  · rw [if_neg h0, if_neg (by simp [h0]), if_neg (by omega)]
theorem hF_ly {b o : Nat} (ho : o < 23) : hF b o = ly_h b o (if o = 0 then fHn else fun _ => 0) ab_CB R0 := by
  match o, ho with
  | 0, _ => rfl
  | 1, _ => rfl
  | 2, _ => rfl
  | 3, _ => rfl
  | 4, _ => rfl
  | 5, _ => rfl
  | 6, _ => rfl
  | 7, _ => rfl
  | 8, _ => rfl
  | 9, _ => rfl
  | 10, _ => rfl
  | 11, _ => rfl
  | 12, _ => rfl
  | 13, _ => rfl
  | 14, _ => rfl
  | 15, _ => rfl
  | 16, _ => rfl
  | 17, _ => rfl
  | 18, _ => rfl
  | 19, _ => rfl
  | 20, _ => rfl
  | 21, _ => rfl
  | 22, _ => rfl
  | o + 23, h => exact absurd h (by omega)
theorem hF_S0 {b o : Nat} (hb : isH b) (ho : o < 23) : hF b o = Hp S0 (b + o) := by
  show _ = ly_mk (b + o) (s01 (b + o)) ab_CB R0
  rw [ly_at hb ho, s01_b hb ho, hF_ly ho]
theorem vF_house {b o : Nat} (hb : isH b) (ho : o < 23) : vF 0 6 2 (b + o) = hF b o := by
  have hl := hb.lt
  rcases hb with rfl | rfl | rfl | ⟨j, hj, rfl⟩
  · unfold vF
    rw [if_neg (by omega), if_pos (by omega)]
    unfold pF
    rw [if_neg (by omega), if_neg (by omega), if_pos (by omega), show 3 + o - 1 - 2 = o by omega]
  · unfold vF
    rw [if_neg (by omega), if_neg (by omega), if_neg (by omega), if_pos (by omega), show 34 + o - 34 = o by omega, Nat.zero_add]
  · unfold vF
    rw [if_neg (by omega), if_neg (by omega), if_neg (by omega), if_neg (by omega), if_pos (by omega), show 57 + o - 57 = o by omega, Nat.zero_add]
  · unfold vF
    rw [if_neg (by omega), if_neg (by omega), if_neg (by omega), if_neg (by omega), if_neg (by omega), if_neg (by omega), if_neg (by omega), if_neg (by omega), show (83 + 23 * j + o - 83) / 23 = j by omega, show (83 + 23 * j + o - 83) % 23 = o by omega, Nat.zero_add]
theorem vF_S0 {k : Nat} (h26 : k < 267) : vF 0 6 2 k = Hp S0 k := by
  have hs : (∃ b o, isH b ∧ o < 23 ∧ k = b + o) ∨ k = 0 ∨ k = 1 ∨ k = 2 ∨ k = 26 ∨ k = 27 ∨ k = 28 ∨ k = 29 ∨ k = 30 ∨ k = 31 ∨ k = 32 ∨ k = 33 ∨ k = 80 ∨ k = 81 ∨ k = 82 := by
    by_cases a1 : k < 3
    · omega
    · by_cases a2 : k < 26
      · exact Or.inl ⟨3, k - 3, isH_draft, by omega, by omega⟩
      · by_cases a3 : k < 34
        · omega
        · by_cases a4 : k < 57
          · exact Or.inl ⟨34, k - 34, isH_house, by omega, by omega⟩
          · by_cases a5 : k < 80
            · exact Or.inl ⟨57, k - 57, isH_trial, by omega, by omega⟩
            · by_cases a6 : k < 83
              · omega
              · exact Or.inl ⟨83 + 23 * ((k - 83) / 23), (k - 83) % 23, Or.inr (Or.inr (Or.inr ⟨(k - 83) / 23, by omega, rfl⟩)), by omega, by omega⟩
  rcases hs with ⟨b, o, hb, ho, rfl⟩ | rfl | rfl | rfl | rfl | rfl | rfl | rfl | rfl | rfl | rfl | rfl | rfl | rfl | rfl
  · rw [vF_house hb ho, hF_S0 hb ho]
  · rfl
  · rfl
  · rfl
  · rfl
  · rfl
  · rfl
  · rfl
  · rfl
  · rfl
  · rfl
  · rfl
  · show Sum.inl (6, 6, Sum.inr (Sum.inr (Sum.inr (Sum.inr (fun q => if q < 6 then some (0 + (83 + 23 * q)) else none))))) = Sum.inl (6, 6, Sum.inr (Sum.inr (Sum.inr (Sum.inr (fun q => if q < 6 then some (83 + 23 * q) else none)))))
    simp only [Nat.zero_add]
  · show Sum.inl (6, 2, Sum.inr (Sum.inr (Sum.inr (Sum.inr (fun q => if q < 2 then some (0 + (221 + 23 * q)) else none))))) = Sum.inl (6, 2, Sum.inr (Sum.inr (Sum.inr (Sum.inr (fun q => if q < 2 then some (221 + 23 * q) else none)))))
    simp only [Nat.zero_add]
  · rfl
theorem vr0 {e : va_E} : blk (ab_up (Hp S0) 0 e) 0 267 (vF 0 6 2) = Hp S0 := by
  funext k
  unfold blk
  by_cases hk : 0 ≤ k ∧ k < 0 + 267
  · rw [if_pos hk, Nat.sub_zero]
    exact vF_S0 (by omega)
  · rw [if_neg hk, ab_up_n _ _ (by omega)]
theorem sb0 : blk (ab_up (Hp S0) 267 (.inr (7, dSB))) 267 2 (sF 267) = Hp S0 := by
  funext k
  unfold blk
  by_cases hk : 267 ≤ k ∧ k < 267 + 2
  · rw [if_pos hk]
    rcases (show k = 267 ∨ k = 268 by omega) with rfl | rfl <;> rfl
  · rw [if_neg hk, ab_up_n _ _ (by omega)]
theorem SBI_S0 : SBI 269 S0 0 0 (fun _ => 0) := ⟨⟨Or.inl rfl, by decide, by decide⟩, rfl, rfl, ⟨Nat.zero_le _, by decide⟩, fun _ => (by decide : 0 ≤ (0 : Int32).toInt ∧ (0 : Int32).toInt < 128)⟩
/-- the house that the constructors lay -/
theorem HH_S0 : HH S0 34 plain (fun _ => True) := by
  refine ⟨⟨isH_house, by rw [rn_plain]; decide, by rw [pn_plain]; decide⟩, fun j hj hj2 => ?_, fun k hk => ?_, fun i hi => ?_⟩
  · show s01 34 j = plain (hm j)
    have e := s01_b (b := 34) (o := 0) isH_house (by decide)
    rw [show s01 34 = fHn from e]
    exact (by decide : ∀ j, j < 12 → ¬ j = 10 → fHn j = plain (hm j)) j hj hj2
  · rw [pn_plain] at hk
    exact absurd hk (Nat.not_lt_zero _)
  · rw [rn_plain] at hi
    exact absurd hi (Nat.not_lt_zero _)
theorem PPf_S0 : PPf S0.2.2.1 := ⟨fun i hi => ⟨i, hi, rfl⟩, fun i j _ _ e => by
  have e2 : 83 + 23 * i = 83 + 23 * j := e
  omega⟩
theorem law_begin (F : FLW) {L : Nat} {xs : Nat → Int32} (hL : L ≤ 260) : LX L xs lawQ 0 0 0 [some (.ref (ab_CB + 500000)), none, none, none, none, none, none, none, none, none, none, none, none, none] [] 0 (Hp S0) := by
  have e9 : ab_CB = 1000000 := rfl
  refine wa_new (fs := dVR) tyX6 dL_law_0 wk_L_25 wi_X6 wz_X6 cl_VR.1 cl_VR.2.1 cl_VR.2.2.1 (by decide) (fun _ => rfl) (wf_d rfl) (by omega) (by show 0 + 1 ≤ 600086; omega) (by show 0 + 10 ≤ 7301442; omega) ?_
  refine wa_dup dL_law_3 rfl ?_
  refine wa_callIc (As := []) dL_law_4 lk_L_221 (ct_vr (b := 0) (by omega) (ab_up_s _ _ _)) (fun E n' h' q => by cases q.1) rfl rfl (by exact Nat.le_of_ble_eq_true rfl) (by unfold ab_fitc; refine ⟨?_, ?_, ?_, ?_⟩ <;> simp [room_1]) (by exact Nat.le_of_ble_eq_true rfl) (fun ro n' h' q _ => ?_)
  obtain ⟨q1, rfl, rfl⟩ := q
  cases q1
  rw [vr0]
  refine wa_astore_n dL_law_7 rfl ?_
  refine wa_aload_n dL_law_8 rfl ?_
  refine wa_aload_n dL_law_9 rfl ?_
  refine wx_callSX (As := [.ref 0, .ref (ab_CB + 500000)]) dL_law_10 lk_L_222 (ab_XS_M _ _) (yl_load (by omega) sb0 SBI_S0 rfl HH_S0 GG_plain PPf_S0 (Nat.zero_le _) rfl) rfl (by exact Nat.le_of_ble_eq_true rfl) (fitP (by decide) (by decide) (by decide) (by decide)) (by exact Nat.le_of_ble_eq_true rfl) (fun ro n' h' q _ => ?_) (fun E n' h' q _ => by cases q.1)
  obtain ⟨q1, q2, S1, g1, c1, rfl, hV, hr, hT⟩ := q
  cases q1
  refine wa_if_eq 23 dL_law_13 rfl (fun z => absurd z (by decide)) (fun _ => ?_)
  refine wa_aload_n dL_law_16 rfl ?_
  refine c_SI (As := [.ref 0]) dL_law_17 (yl_stands F hV (by omega)) lk_L_225 rfl ?_ (hR := fitP (by decide) (by decide) (by decide) (by decide))
  refine wa_if_ne 25 dL_law_20 rfl (fun _ => ?_) (fun z => absurd z (by decide))
  refine wa_bipush (x := 60) dL_law_25 (by decide) ?_
  refine wa_istore_n dL_law_27 rfl ?_
  exact law_loop F (by omega) 56 0 (by omega) _ _ _ _ _ _ _ _ _ _ _ _ _ _ _ _ _ hV hr (by omega) (by omega) (by decide) (by decide)
