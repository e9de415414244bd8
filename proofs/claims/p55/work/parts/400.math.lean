/-! java/lang/Math. Written by program (wip/whole/gen/m400.py) but for the heads. -/
abbrev PIh (v : Int32) (n : Nat) (h : ab_H) : ab_R → Nat → ab_H → Prop := fun r n' h' => r = .inl (some (.int v)) ∧ n' = n ∧ h' = h
def i_min (x y : Int32) : Int32 := if y < x then y else x
def i_max (x y : Int32) : Int32 := if x < y then y else x
def i_abs (x : Int32) : Int32 := if 0 ≤ x then x else -x
theorem am_min {n : Nat} {h : ab_H} (x y : Int32) : AM yJ9_min_7cf53 cJ9_min_7cf53 2 (some .int) [] 0 0 0 [.int x, .int y] n h (PIh (i_min x y) n h) := by
  intro has
  refine wa_iload_n dJ9_min_7cf53_0 rfl ?_
  refine wa_iload_n dJ9_min_7cf53_1 rfl ?_
  refine wa_icmp_gt 9 dJ9_min_7cf53_2 rfl (fun c2 => ?_) (fun c2 => ?_)
  · refine wa_iload_n dJ9_min_7cf53_9 rfl ?_
    exact wa_ireturn dJ9_min_7cf53_10 ⟨Nat.le_refl _, Nat.le_refl _, ⟨_, rfl, rfl⟩, (by congr 3; simp only [i_min, i_max, i_abs]; split <;> first | rfl | (exfalso; simp only [Int32.lt_iff_toInt_lt, Int32.le_iff_toInt_le, Int32.toInt_zero] at *; omega)), rfl, rfl⟩
  · refine wa_iload_n dJ9_min_7cf53_5 rfl ?_
    refine wa_goto 10 dJ9_min_7cf53_6 rfl ?_
    exact wa_ireturn dJ9_min_7cf53_10 ⟨Nat.le_refl _, Nat.le_refl _, ⟨_, rfl, rfl⟩, (by congr 3; simp only [i_min, i_max, i_abs]; split <;> first | rfl | (exfalso; simp only [Int32.lt_iff_toInt_lt, Int32.le_iff_toInt_le, Int32.toInt_zero] at *; omega)), rfl, rfl⟩
theorem am_max {n : Nat} {h : ab_H} (x y : Int32) : AM yJ9_max_7cf53 cJ9_max_7cf53 2 (some .int) [] 0 0 0 [.int x, .int y] n h (PIh (i_max x y) n h) := by
  intro has
  refine wa_iload_n dJ9_max_7cf53_0 rfl ?_
  refine wa_iload_n dJ9_max_7cf53_1 rfl ?_
  refine wa_icmp_lt 9 dJ9_max_7cf53_2 rfl (fun c2 => ?_) (fun c2 => ?_)
  · refine wa_iload_n dJ9_max_7cf53_9 rfl ?_
    exact wa_ireturn dJ9_max_7cf53_10 ⟨Nat.le_refl _, Nat.le_refl _, ⟨_, rfl, rfl⟩, (by congr 3; simp only [i_min, i_max, i_abs]; split <;> first | rfl | (exfalso; simp only [Int32.lt_iff_toInt_lt, Int32.le_iff_toInt_le, Int32.toInt_zero] at *; omega)), rfl, rfl⟩
  · refine wa_iload_n dJ9_max_7cf53_5 rfl ?_
    refine wa_goto 10 dJ9_max_7cf53_6 rfl ?_
    exact wa_ireturn dJ9_max_7cf53_10 ⟨Nat.le_refl _, Nat.le_refl _, ⟨_, rfl, rfl⟩, (by congr 3; simp only [i_min, i_max, i_abs]; split <;> first | rfl | (exfalso; simp only [Int32.lt_iff_toInt_lt, Int32.le_iff_toInt_le, Int32.toInt_zero] at *; omega)), rfl, rfl⟩
theorem am_abs {n : Nat} {h : ab_H} (x : Int32) : AM yJ9_abs_0f7a4 cJ9_abs_0f7a4 1 (some .int) [] 0 0 0 [.int x] n h (PIh (i_abs x) n h) := by
  intro has
  refine wa_iload_n dJ9_abs_0f7a4_0 rfl ?_
  refine wa_if_ge 9 dJ9_abs_0f7a4_1 rfl (fun c1 => ?_) (fun c1 => ?_)
  · refine wa_iload_n dJ9_abs_0f7a4_9 rfl ?_
    exact wa_ireturn dJ9_abs_0f7a4_10 ⟨Nat.le_refl _, Nat.le_refl _, ⟨_, rfl, rfl⟩, (by congr 3; simp only [i_min, i_max, i_abs]; split <;> first | rfl | (exfalso; simp only [Int32.lt_iff_toInt_lt, Int32.le_iff_toInt_le, Int32.toInt_zero] at *; omega)), rfl, rfl⟩
  · refine wa_iload_n dJ9_abs_0f7a4_4 rfl ?_
    refine wa_ineg dJ9_abs_0f7a4_5 ?_
    refine wa_goto 10 dJ9_abs_0f7a4_6 rfl ?_
    exact wa_ireturn dJ9_abs_0f7a4_10 ⟨Nat.le_refl _, Nat.le_refl _, ⟨_, rfl, rfl⟩, (by congr 3; simp only [i_min, i_max, i_abs]; split <;> first | rfl | (exfalso; simp only [Int32.lt_iff_toInt_lt, Int32.le_iff_toInt_le, Int32.toInt_zero] at *; omega)), rfl, rfl⟩
theorem am_fmod {n : Nat} {h : ab_H} (x y : Int32) (hy : ¬ y = 0) : AM yJ9_floorMod_7cf53 cJ9_floorMod_7cf53 3 (some .int) [] 0 0 0 [.int x, .int y] n h (PIh (if (x ^^^ y) < 0 ∧ ¬ x - x / y * y = 0 then x - x / y * y + y else x - x / y * y) n h) := by
  intro has
  refine wa_iload_n dJ9_floorMod_7cf53_0 rfl ?_
  refine wa_iload_n dJ9_floorMod_7cf53_1 rfl ?_
  refine wa_irem dJ9_floorMod_7cf53_2 hy ?_
  refine wa_istore_n dJ9_floorMod_7cf53_3 rfl ?_
  refine wa_iload_n dJ9_floorMod_7cf53_4 rfl ?_
  refine wa_iload_n dJ9_floorMod_7cf53_5 rfl ?_
  refine wa_ixor dJ9_floorMod_7cf53_6 ?_
  refine wa_if_ge 18 dJ9_floorMod_7cf53_7 rfl (fun c7 => ?_) (fun c7 => ?_)
  · refine wa_iload_n dJ9_floorMod_7cf53_18 rfl ?_
    exact wa_ireturn dJ9_floorMod_7cf53_19 ⟨Nat.le_refl _, Nat.le_refl _, ⟨_, rfl, rfl⟩, by rw [if_neg (fun q => by first | (exact q.2 (by assumption)) | (have q1 := q.1; simp only [Int32.lt_iff_toInt_lt, Int32.le_iff_toInt_le, Int32.toInt_zero] at *; omega))], rfl, rfl⟩
  · refine wa_iload_n dJ9_floorMod_7cf53_10 rfl ?_
    refine wa_if_eq 18 dJ9_floorMod_7cf53_11 rfl (fun c11 => ?_) (fun c11 => ?_)
    · refine wa_iload_n dJ9_floorMod_7cf53_18 rfl ?_
      exact wa_ireturn dJ9_floorMod_7cf53_19 ⟨Nat.le_refl _, Nat.le_refl _, ⟨_, rfl, rfl⟩, by rw [if_neg (fun q => by first | (exact q.2 (by assumption)) | (have q1 := q.1; simp only [Int32.lt_iff_toInt_lt, Int32.le_iff_toInt_le, Int32.toInt_zero] at *; omega))], rfl, rfl⟩
    · refine wa_iload_n dJ9_floorMod_7cf53_14 rfl ?_
      refine wa_iload_n dJ9_floorMod_7cf53_15 rfl ?_
      refine wa_iadd dJ9_floorMod_7cf53_16 ?_
      exact wa_ireturn dJ9_floorMod_7cf53_17 ⟨Nat.le_refl _, Nat.le_refl _, ⟨_, rfl, rfl⟩, by rw [if_pos ⟨by simp only [Int32.lt_iff_toInt_lt, Int32.le_iff_toInt_le, Int32.toInt_zero] at *; omega, by assumption⟩], rfl, rfl⟩
theorem am_fdiv {n : Nat} {h : ab_H} (x y : Int32) (hy : ¬ y = 0) : AM yJ9_floorDiv_7cf53 cJ9_floorDiv_7cf53 3 (some .int) [] 0 0 0 [.int x, .int y] n h (PIh (if (x ^^^ y) < 0 ∧ ¬ x / y * y = x then x / y - 1 else x / y) n h) := by
  intro has
  refine wa_iload_n dJ9_floorDiv_7cf53_0 rfl ?_
  refine wa_iload_n dJ9_floorDiv_7cf53_1 rfl ?_
  refine wa_idiv dJ9_floorDiv_7cf53_2 hy ?_
  refine wa_istore_n dJ9_floorDiv_7cf53_3 rfl ?_
  refine wa_iload_n dJ9_floorDiv_7cf53_4 rfl ?_
  refine wa_iload_n dJ9_floorDiv_7cf53_5 rfl ?_
  refine wa_ixor dJ9_floorDiv_7cf53_6 ?_
  refine wa_if_ge 21 dJ9_floorDiv_7cf53_7 rfl (fun c7 => ?_) (fun c7 => ?_)
  · refine wa_iload_n dJ9_floorDiv_7cf53_21 rfl ?_
    exact wa_ireturn dJ9_floorDiv_7cf53_22 ⟨Nat.le_refl _, Nat.le_refl _, ⟨_, rfl, rfl⟩, by rw [if_neg (fun q => by first | (exact q.2 (by assumption)) | (have q1 := q.1; simp only [Int32.lt_iff_toInt_lt, Int32.le_iff_toInt_le, Int32.toInt_zero] at *; omega))], rfl, rfl⟩
  · refine wa_iload_n dJ9_floorDiv_7cf53_10 rfl ?_
    refine wa_iload_n dJ9_floorDiv_7cf53_11 rfl ?_
    refine wa_imul dJ9_floorDiv_7cf53_12 ?_
    refine wa_iload_n dJ9_floorDiv_7cf53_13 rfl ?_
    refine wa_icmp_eq 21 dJ9_floorDiv_7cf53_14 rfl (fun c14 => ?_) (fun c14 => ?_)
    · refine wa_iload_n dJ9_floorDiv_7cf53_21 rfl ?_
      exact wa_ireturn dJ9_floorDiv_7cf53_22 ⟨Nat.le_refl _, Nat.le_refl _, ⟨_, rfl, rfl⟩, by rw [if_neg (fun q => by first | (exact q.2 (by assumption)) | (have q1 := q.1; simp only [Int32.lt_iff_toInt_lt, Int32.le_iff_toInt_le, Int32.toInt_zero] at *; omega))], rfl, rfl⟩
    · refine wa_iload_n dJ9_floorDiv_7cf53_17 rfl ?_
      refine wa_iconst (x := 1) dJ9_floorDiv_7cf53_18 (by decide) ?_
      refine wa_isub dJ9_floorDiv_7cf53_19 ?_
      exact wa_ireturn dJ9_floorDiv_7cf53_20 ⟨Nat.le_refl _, Nat.le_refl _, ⟨_, rfl, rfl⟩, by rw [if_pos ⟨by simp only [Int32.lt_iff_toInt_lt, Int32.le_iff_toInt_le, Int32.toInt_zero] at *; omega, by assumption⟩], rfl, rfl⟩

