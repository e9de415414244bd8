/-! PLAIN FACTS ON FLOATS, over the library's laws of the core. -/
theorem fl_i2d (x : Int32) : ∃ (c : Nat) (q : Int), Jvm.FP.Core.val64 (Jvm.FP.Core.i2d x) = .fin (decide (x.toInt < 0)) c q ∧ Jvm.FP.Core.Whole x.toInt (.fin (decide (x.toInt < 0)) c q) := by
  have h := Jvm.FP.Core.i2d_int x
  unfold Jvm.FP.Core.DInt at h
  by_cases hx : x.toInt = 0
  · rw [Jvm.FP.Core.val64_i2d, hx] at h ⊢
    exact ⟨0, _, rfl, h⟩
  · cases hv : Jvm.FP.Core.val64 (Jvm.FP.Core.i2d x) with
    | nan => rw [hv] at h; exact h.elim
    | inf s => rw [hv] at h; exact h.elim
    | fin s c q =>
      rw [hv] at h
      have hs := Jvm.FP.Core.whole_sign h hx
      subst hs
      exact ⟨c, q, rfl, h⟩
theorem fl_sum {x y : Int32} (h : (x + y).toInt = x.toInt + y.toInt) : Jvm.FP.dadd (Jvm.FP.i2d x) (Jvm.FP.i2d y) = Jvm.FP.i2d (x + y) := by
  show Jvm.FP.Core.dadd (Jvm.FP.Core.i2d x) (Jvm.FP.Core.i2d y) = Jvm.FP.Core.i2d (x + y)
  have hn : Jvm.FP.Core.val64 (Jvm.FP.Core.i2d (x + y)) ≠ .nan := Jvm.FP.Core.DInt_ne_nan (Jvm.FP.Core.i2d_int _)
  refine (Jvm.FP.Core.val64_inj hn ?_).symm
  obtain ⟨c, q, e1, w1⟩ := fl_i2d x
  obtain ⟨d, r, e2, w2⟩ := fl_i2d y
  rw [Jvm.FP.Core.val64_dadd, e1, e2, Jvm.FP.Core.val64_i2d]
  have w3 := Jvm.FP.Core.whole_sum w1 w2
  have w4 := Jvm.FP.Core.whole_ofInt (x + y).toInt
  show Jvm.FP.Core.round Jvm.FP.Core.b64 (.fin (decide ((x + y).toInt < 0)) (x + y).toInt.natAbs 0) = Jvm.FP.Core.round Jvm.FP.Core.b64 (.fin _ _ _)
  rw [Jvm.FP.Core.round_whole w3, Jvm.FP.Core.round_whole (i := (x + y).toInt) w4, h]
  congr 1
  by_cases hz : x.toInt + y.toInt = 0
  · have hc := (Jvm.FP.Core.whole_zero w3).mpr hz
    have hu := Int.natAbs_eq_zero.mp hc
    unfold Jvm.FP.Core.sumSign
    rw [if_pos hu, hz]
    by_cases hx : x.toInt < 0
    · have hy : ¬ y.toInt < 0 := by omega
      simp [hx, hy]
    · simp [hx]
  · exact (Jvm.FP.Core.whole_sign w3 hz).symm
theorem fl_d0 : Jvm.FP.dconst0 = Jvm.FP.i2d 0 := by decide +kernel
theorem fl_in (x : Int32) : Jvm.FP.dIsNaN (Jvm.FP.i2d x) = false := (Jvm.FP.Core.notNaN_iff _).mpr (Jvm.FP.Core.DInt_ne_nan (Jvm.FP.Core.i2d_int x))
theorem fl_div {x y : Int32} (hy : y ≠ 0) : Jvm.FP.dIsNaN (Jvm.FP.ddiv (Jvm.FP.i2d x) (Jvm.FP.i2d y)) = false := by
  have hy' : y.toInt ≠ 0 := fun z => hy (Int32.toInt_inj.mp (z.trans Int32.toInt_zero.symm))
  rw [Bool.eq_false_iff]
  intro hn
  obtain ⟨c, q, e1, w1⟩ := fl_i2d x
  obtain ⟨d, r, e2, w2⟩ := fl_i2d y
  rcases (Jvm.FP.Core.ddiv_nan_iff _ _).mp hn with z | z | ⟨s, t, z, -⟩ | ⟨-, s, t, z⟩
  · rw [e1] at z; cases z
  · rw [e2] at z; cases z
  · rw [e1] at z; cases z
  · rw [e2] at z
    cases z
    exact hy' ((Jvm.FP.Core.whole_zero w2).mp rfl)
theorem fl_n64 {r : UInt64} (h : Jvm.FP.dIsNaN r = false) : vf_n64 r := by
  have h1 := (Jvm.FP.Core.ne_nan r).mp ((Jvm.FP.Core.notNaN_iff r).mp h)
  show r &&& 0x7fffffffffffffff ≤ 0x7ff0000000000000
  rw [UInt64.le_iff_toNat_le, UInt64.toNat_and]
  have e : (0x7fffffffffffffff : UInt64).toNat = 2 ^ 63 - 1 := by decide
  rw [e, Nat.and_two_pow_sub_one_eq_mod]
  exact h1
theorem fl_n32 {r : UInt32} (h : Jvm.FP.fIsNaN r = false) : vf_n32 r := by
  have h1 : ¬ (2139095040 < r.toNat % 2 ^ 31) := fun z => by
    have := (Jvm.FP.Core.isNaN_bits32 r).mpr z
    have h2 : Jvm.FP.Core.fIsNaN r = false := h
    rw [h2] at this
    cases this
  show r &&& 0x7fffffff ≤ 0x7f800000
  rw [UInt32.le_iff_toNat_le, UInt32.toNat_and]
  have e : (0x7fffffff : UInt32).toNat = 2 ^ 31 - 1 := by decide
  rw [e, Nat.and_two_pow_sub_one_eq_mod]
  exact Nat.not_lt.mp h1
theorem fl_100 : Jvm.FP.Core.FInt 100 1120403456 := by
  have h := Jvm.FP.Core.i2f_int (a := 100) (by decide)
  have e : Jvm.FP.Core.i2f 100 = 1120403456 := by decide +kernel
  have e2 : (100 : Int32).toInt = 100 := by decide
  rw [e, e2] at h
  exact h
theorem fl_h {t : Int32} (h1 : 100 ≤ 100 * t.toInt) (h2 : t.toInt ≤ 110000) : (100 * t).toInt = 100 * t.toInt := by
  have e : (100 : Int32).toInt = 100 := by decide
  rw [Int32.toInt_mul, e]
  exact Int.bmod_eq_of_le (by omega) (by omega)
theorem fl_mul {t : Int32} (h1 : 0 < t.toInt) (h2 : t.toInt ≤ 110000) : Jvm.FP.fmul 1120403456 (Jvm.FP.i2f t) = Jvm.FP.i2f (100 * t) := by
  have e := fl_h (t := t) (by omega) h2
  have ha : Jvm.FP.Core.FInt (100 * t.toInt) (Jvm.FP.Core.fmul 1120403456 (Jvm.FP.Core.i2f t)) := Jvm.FP.Core.fmul_int fl_100 (Jvm.FP.Core.i2f_int (by omega)) (by omega)
  have hb : Jvm.FP.Core.FInt (100 * t.toInt) (Jvm.FP.Core.i2f (100 * t)) := by
    have := Jvm.FP.Core.i2f_int (a := 100 * t) (by rw [e]; omega)
    rwa [e] at this
  exact Jvm.FP.Core.fint_unique (by omega) ha hb
theorem fl_fn (x : Int32) : Jvm.FP.Core.val32 (Jvm.FP.Core.i2f x) ≠ .nan := by
  rw [Jvm.FP.Core.val32_i2f]
  intro z
  rw [Jvm.FP.Core.round_nan] at z
  cases z
theorem fl_fdiv {x t : Int32} (h1 : 0 < t.toInt) (h2 : t.toInt ≤ 110000) : Jvm.FP.fIsNaN (Jvm.FP.fdiv (Jvm.FP.i2f x) (Jvm.FP.i2f (100 * t))) = false := by
  have e := fl_h (t := t) (by omega) h2
  have hb : Jvm.FP.Core.FInt (100 * t).toInt (Jvm.FP.Core.i2f (100 * t)) := Jvm.FP.Core.i2f_int (by rw [e]; omega)
  unfold Jvm.FP.Core.FInt at hb
  rw [Bool.eq_false_iff]
  intro hn
  rcases (Jvm.FP.Core.fdiv_nan_iff _ _).mp hn with z | z | ⟨s, t', -, z⟩ | ⟨-, s, t', z⟩
  · exact fl_fn _ z
  · exact fl_fn _ z
  · rw [z] at hb; exact hb
  · rw [z] at hb
    have := (Jvm.FP.Core.whole_zero hb).mp rfl
    omega
theorem fl_fm {t : Int32} : Jvm.FP.fIsNaN (Jvm.FP.i2f t) = false := (Jvm.FP.Core.notNaN_iff32 _).mpr (fl_fn t)
theorem fl_f2d {v : UInt32} (h : Jvm.FP.fIsNaN v = false) : Jvm.FP.dIsNaN (Jvm.FP.f2d v) = false := by rw [Jvm.FP.f2d_nan]; exact h
theorem fl_dc {v : UInt64} (h : Jvm.FP.dIsNaN v = false) : Jvm.FP.dcmp v v = some .eq := Jvm.FP.Core.dcmp_self ((Jvm.FP.Core.notNaN_iff v).mp h)
theorem fl_fc {v : UInt32} (h : Jvm.FP.fIsNaN v = false) : Jvm.FP.fcmp v v = some .eq := Jvm.FP.Core.fcmp_self ((Jvm.FP.Core.notNaN_iff32 v).mp h)
theorem flw : FLW := ⟨fun x y h => fl_sum h, fl_d0, fun x => fl_n64 (fl_in x), fun x y hy => ⟨fl_n64 (fl_div hy), fl_dc (fl_div hy)⟩, fl_dc (by decide +kernel), fun x t h1 h2 => ⟨fl_mul h1 h2, fl_n32 fl_fm, fl_n32 (fl_fdiv h1 h2), fl_n64 (fl_f2d (fl_fdiv h1 h2)), fl_dc (fl_f2d (fl_fdiv h1 h2))⟩, fl_n64 (fl_f2d (by decide +kernel)), fl_dc (fl_f2d (by decide +kernel))⟩
