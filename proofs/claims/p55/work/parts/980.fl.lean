/-! PLAIN FACTS ON FLOATS, over the library's laws of the core. -/
theorem fl_n32 {r : UInt32} (h : Jvm.FP.fIsNaN r = false) : vf_n32 r := by
  have h1 : ¬ (2139095040 < r.toNat % 2 ^ 31) := fun z => by
    have := (Jvm.FP.Core.isNaN_bits32 r).mpr z
    have h2 : Jvm.FP.Core.fIsNaN r = false := h
    rw [h2] at this
    cases this
  show r &&& 0x7fffffff ≤ 0x7f800000
  rw [UInt32.le_iff_toNat_le, UInt32.toNat_and]
  have e : (0x7fffffff : UInt32).toNat = 2 ^ 31 - 1 := by decide
  rw [e, Nat.and_two_pow_sub_one_eq_mod]
  exact Nat.not_lt.mp h1
theorem fl_100 : Jvm.FP.Core.FInt 100 1120403456 := by
  have h := Jvm.FP.Core.i2f_int (a := 100) (by decide)
  have e : Jvm.FP.Core.i2f 100 = 1120403456 := by decide +kernel
  have e2 : (100 : Int32).toInt = 100 := by decide
  rw [e, e2] at h
  exact h
theorem fl_h {t : Int32} (h1 : 100 ≤ 100 * t.toInt) (h2 : t.toInt ≤ 110000) : (100 * t).toInt = 100 * t.toInt := by
  have e : (100 : Int32).toInt = 100 := by decide
  rw [Int32.toInt_mul, e]
  exact Int.bmod_eq_of_le (by omega) (by omega)
theorem fl_mul {t : Int32} (h1 : 0 < t.toInt) (h2 : t.toInt ≤ 110000) : Jvm.FP.fmul 1120403456 (Jvm.FP.i2f t) = Jvm.FP.i2f (100 * t) := by
  have e := fl_h (t := t) (by omega) h2
  have ha : Jvm.FP.Core.FInt (100 * t.toInt) (Jvm.FP.Core.fmul 1120403456 (Jvm.FP.Core.i2f t)) := Jvm.FP.Core.fmul_int fl_100 (Jvm.FP.Core.i2f_int (by omega)) (by omega)
  have hb : Jvm.FP.Core.FInt (100 * t.toInt) (Jvm.FP.Core.i2f (100 * t)) := by
    have := Jvm.FP.Core.i2f_int (a := 100 * t) (by rw [e]; omega)
    rwa [e] at this
  exact Jvm.FP.Core.fint_unique (by omega) ha hb
theorem fl_fn (x : Int32) : Jvm.FP.Core.val32 (Jvm.FP.Core.i2f x) ≠ .nan := by
  rw [Jvm.FP.Core.val32_i2f]
  intro z
  rw [Jvm.FP.Core.round_nan] at z
  cases z
theorem fl_fdiv {x t : Int32} (h1 : 0 < t.toInt) (h2 : t.toInt ≤ 110000) : Jvm.FP.fIsNaN (Jvm.FP.fdiv (Jvm.FP.i2f x) (Jvm.FP.i2f (100 * t))) = false := by
  have e := fl_h (t := t) (by omega) h2
  have hb : Jvm.FP.Core.FInt (100 * t).toInt (Jvm.FP.Core.i2f (100 * t)) := Jvm.FP.Core.i2f_int (by rw [e]; omega)
  unfold Jvm.FP.Core.FInt at hb
  rw [Bool.eq_false_iff]
  intro hn
  rcases (Jvm.FP.Core.fdiv_nan_iff _ _).mp hn with z | z | ⟨s, t', -, z⟩ | ⟨-, s, t', z⟩
  · exact fl_fn _ z
  · exact fl_fn _ z
  · rw [z] at hb; exact hb
  · rw [z] at hb
    have := (Jvm.FP.Core.whole_zero hb).mp rfl
    omega
theorem fl_fm {t : Int32} : Jvm.FP.fIsNaN (Jvm.FP.i2f t) = false := (Jvm.FP.Core.notNaN_iff32 _).mpr (fl_fn t)
theorem fl_fc {v : UInt32} (h : Jvm.FP.fIsNaN v = false) : Jvm.FP.fcmp v v = some .eq := Jvm.FP.Core.fcmp_self ((Jvm.FP.Core.notNaN_iff32 v).mp h)
theorem flw : FLW := ⟨fun x t h1 h2 => ⟨fl_mul h1 h2, fl_n32 fl_fm, fl_n32 (fl_fdiv h1 h2), fl_fc (fl_fdiv h1 h2)⟩, fl_fc (by decide +kernel)⟩
