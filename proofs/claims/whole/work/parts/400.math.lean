/-! java/lang/Math's methods. -/
abbrev PIh (v : Int32) (n : Nat) (h : ab_H) : ab_R → Nat → ab_H → Prop := fun r n' h' => r = .inl (some (.int v)) ∧ n' = n ∧ h' = h
theorem am_min {n : Nat} {h : ab_H} (x y : Int32) : AM yJ9_min_7cf53 cJ9_min_7cf53 2 (some .int) [] 0 0 0 [.int x, .int y] n h (PIh (if x ≤ y then x else y) n h) := by
  intro has
  refine wa_iload_n dJ9_min_7cf53_0 rfl ?_
  refine wa_iload_n dJ9_min_7cf53_1 rfl ?_
  refine wa_icmp_gt 9 dJ9_min_7cf53_2 rfl (fun c1 => ?_) (fun c1 => ?_)
  · refine wa_iload_n dJ9_min_7cf53_9 rfl ?_
    exact wa_ireturn dJ9_min_7cf53_10 ⟨Nat.le_refl _, Nat.le_refl _, ⟨_, rfl, rfl⟩, by rw [if_neg (by simpa using c1)], rfl, rfl⟩
  · refine wa_iload_n dJ9_min_7cf53_5 rfl ?_
    refine wa_goto 10 dJ9_min_7cf53_6 rfl ?_
    exact wa_ireturn dJ9_min_7cf53_10 ⟨Nat.le_refl _, Nat.le_refl _, ⟨_, rfl, rfl⟩, by rw [if_pos (by simpa using c1)], rfl, rfl⟩
