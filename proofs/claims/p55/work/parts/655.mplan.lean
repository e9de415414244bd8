/-! ValveRoomModel: kindHere, plans, parseStatement. Written by program (wip/whole/gen/m655.py) but for the heads. -/
theorem VG_ins {T : Int} {g : Nat → Int32} (h : VG T g) {K : Nat} (hK : K ≤ pn g) (hp : pn g < 20) {r : Nat} (hr : r < 6) (t kk : Int32) : VG T (f_ins K t (nI r) kk g) := by
  have hlo : ∀ j, j < 11 → ¬ j = 3 → f_ins K t (nI r) kk g j = g j := fun j hj h3 => by
    unfold f_ins
    rw [if_neg h3, if_neg (by omega), if_neg (by omega), if_neg (by omega), if_neg (by omega)]
  have e3 : f_ins K t (nI r) kk g 3 = nI (pn g + 1) := by
    show g 3 + 1 = _
    rw [(VG_pn h).1]; exact nI_1 _
  have ep : pn (f_ins K t (nI r) kk g) = pn g + 1 := by
    unfold pn
    rw [e3, nI_toInt (by omega)]; rfl
  refine ⟨by rw [hlo 1 (by decide) (by decide)]; exact h.1, by rw [hlo 0 (by decide) (by decide)]; exact h.2.1, by rw [e3, nI_toInt (by omega)]; omega, fun k hk => ?_, fun i => ?_⟩
  · rw [ep] at hk
    unfold f_ins
    rw [if_neg (by omega), if_neg (by omega)]
    by_cases hkK : k = K
    · rw [if_pos (by omega), nI_toInt (by omega)]; omega
    · rw [if_neg (by omega), if_neg (by omega)]
      by_cases hlt : k < K
      · rw [if_neg (by omega)]
        exact h.2.2.2.1 k (by omega)
      · rw [if_pos (by omega), show 11 + 3 * k + 1 - 3 = 11 + 3 * (k - 1) + 1 by omega]
        exact h.2.2.2.1 (k - 1) (by omega)
  · have e : pg (f_ins K t (nI r) kk g) i = pg g i := by
      funext t'
      unfold pg of
      by_cases h48 : t' < 48
      · rw [if_pos h48, if_pos h48]
        unfold f_ins
        rw [if_neg (by omega), if_neg (by omega), if_neg (by omega), if_neg (by omega), if_neg (by omega)]
      · rw [if_neg h48, if_neg h48]
    rw [e]; exact h.2.2.2.2 i
theorem VG_plan {T : Int} {g : Nat → Int32} (h : VG T g) (hp : pn g < 20) {r : Nat} (hr : r < 6) (t kk : Int32) : VG T (f_plan t (nI r) kk g) := VG_ins h (ipos_le _ _ _) hp hr t kk
