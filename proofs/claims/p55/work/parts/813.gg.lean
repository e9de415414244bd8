/-! A changed program, an added plan, a dropped plan keep the ranges. -/
theorem GG_prog {T : Int} {g : Nat → Int32} {i t : Nat} {v : Int32} (h : GG T g) (ht : t < 48) (hv : v = 0 ∨ (50 ≤ v.toInt ∧ v.toInt ≤ 300)) : GG T (pt g i (18 + t) v) := by
  have lo (k : Nat) (hk : k < 71) : pt g i (18 + t) v k = g k := pt_lo g v hk
  have ep : pn (pt g i (18 + t) v) = pn g := pn_cg (lo 3 (by decide))
  have er : rn (pt g i (18 + t) v) = rn g := rn_cg (lo 0 (by decide))
  have h20 := h.pn20
  refine ⟨VG_prog h.1 ht hv, ?_, fun k q => ?_, fun k q => ?_, fun j hj => ?_⟩
  · unfold GH
    rw [lo 2 (by decide), lo 4 (by decide), lo 5 (by decide), lo 6 (by decide), lo 7 (by decide), lo 8 (by decide), lo 9 (by decide), lo 10 (by decide)]
    exact h.2.1
  · rw [ep] at q
    rw [er, lo _ (by omega), lo _ (by omega)]
    exact h.2.2.1 k q
  · rw [ep] at q
    rw [lo _ (by omega)]
    exact h.2.2.2.1 k q
  · rw [er] at hj
    exact (h.2.2.2.2 j hj).cg (fun w hw => by rw [of_pt g v (by omega) (by omega), if_neg (by omega)])
theorem ins_lo {K : Nat} {t r kk : Int32} {g : Nat → Int32} {j : Nat} (h3 : ¬ j = 3) (hj : j < 11 ∨ (71 ≤ j ∧ K < 20 ∧ pn g < 20)) : f_ins K t r kk g j = g j := by
  unfold f_ins
  rw [if_neg h3, if_neg (by omega), if_neg (by omega), if_neg (by omega), if_neg (by omega)]
theorem GG_plan {T : Int} {g : Nat → Int32} (h : GG T g) (hp : pn g < 20) {r : Nat} (hr : r < rn g) {t kk : Int32} (ht : 0 ≤ t.toInt ∧ t.toInt ≤ 300000) (hk : 0 ≤ kk.toInt ∧ kk.toInt < 4) : GG T (f_plan t (nI r) kk g) := by
  have h6 := h.rn6
  have hKp := ipos_le g t (pn g)
  have hV := VG_plan h.1 hp (r := r) (by omega) t kk
  unfold f_plan at hV ⊢
  revert hV
  generalize ipos g t (pn g) = K at hKp ⊢
  intro hV
  have lo (j : Nat) (h3 : ¬ j = 3) (hj : j < 11 ∨ 71 ≤ j) : f_ins K t (nI r) kk g j = g j := ins_lo h3 (by omega)
  have er : rn (f_ins K t (nI r) kk g) = rn g := rn_cg (lo 0 (by decide) (by omega))
  have ep : pn (f_ins K t (nI r) kk g) = pn g + 1 := by
    unfold pn
    have e3 : f_ins K t (nI r) kk g 3 = nI (pn g + 1) := by
      show g 3 + 1 = _
      rw [h.e3]; exact nI_1 _
    rw [e3, nI_toInt (by omega)]; rfl
  have at3 (k w : Nat) (hw : w < 3) (hk : k < pn g + 1) : (k = K → f_ins K t (nI r) kk g (11 + 3 * k + w) = if w = 0 then t else if w = 1 then nI r else kk) ∧ (¬ k = K → ∃ k', k' < pn g ∧ f_ins K t (nI r) kk g (11 + 3 * k + w) = g (11 + 3 * k' + w)) := by
    refine ⟨fun e => ?_, fun e => ?_⟩
    · subst e
      unfold f_ins
      rw [if_neg (by omega)]
      by_cases w2 : w = 2
      · subst w2
        exact if_pos rfl
      rw [if_neg (by omega)]
      by_cases w1 : w = 1
      · subst w1
        exact if_pos rfl
      rw [if_neg (by omega), if_pos (by omega), if_pos (by omega)]
    · by_cases hlt : k < K
      · refine ⟨k, by omega, ?_⟩
        unfold f_ins
        rw [if_neg (by omega), if_neg (by omega), if_neg (by omega), if_neg (by omega), if_neg (by omega)]
      · refine ⟨k - 1, by omega, ?_⟩
        unfold f_ins
        rw [if_neg (by omega), if_neg (by omega), if_neg (by omega), if_neg (by omega), if_pos (by omega), show 11 + 3 * k + w - 3 = 11 + 3 * (k - 1) + w by omega]
  refine ⟨hV, ?_, fun k q => ?_, fun k q => ?_, fun j hj => ?_⟩
  · unfold GH
    rw [lo 2 (by decide) (by omega), lo 4 (by decide) (by omega), lo 5 (by decide) (by omega), lo 6 (by decide) (by omega), lo 7 (by decide) (by omega), lo 8 (by decide) (by omega), lo 9 (by decide) (by omega), lo 10 (by decide) (by omega)]
    exact h.2.1
  · rw [ep] at q
    rw [er]
    by_cases e : k = K
    · rw [(at3 k 1 (by decide) q).1 e, (at3 k 2 (by decide) q).1 e]
      exact ⟨by rw [if_neg (by decide), if_pos rfl, nI_toInt (by omega)]; omega, hk⟩
    · obtain ⟨k1, a1, b1⟩ := (at3 k 1 (by decide) q).2 e
      obtain ⟨k2, a2, b2⟩ := (at3 k 2 (by decide) q).2 e
      rw [b1, b2]
      exact ⟨(h.2.2.1 k1 a1).1, (h.2.2.1 k2 a2).2⟩
  · rw [ep] at q
    by_cases e : k = K
    · have := (at3 k 0 (by decide) q).1 e
      rw [Nat.add_zero] at this
      rw [this]
      exact ht
    · obtain ⟨k1, a1, b1⟩ := (at3 k 0 (by decide) q).2 e
      rw [Nat.add_zero, Nat.add_zero] at b1
      rw [b1]
      exact h.2.2.2.1 k1 a1
  · rw [er] at hj
    exact (h.2.2.2.2 j hj).cg (fun w hw => lo _ (by omega) (by omega))

