/-! THE LAW: wanted, stands. Written by program (wip/p55/gen/m940.py) but for the heads. -/
theorem i_addR {x y : Int32} (h1 : -2147483648 ≤ x.toInt + y.toInt) (h2 : x.toInt + y.toInt ≤ 2147483647) : (x + y).toInt = x.toInt + y.toInt := by
  rw [Int32.toInt_add]
  exact Int.bmod_eq_of_le (by omega) (by omega)
theorem i_subR {x y : Int32} (h1 : -2147483648 ≤ x.toInt - y.toInt) (h2 : x.toInt - y.toInt ≤ 2147483647) : (x - y).toInt = x.toInt - y.toInt := by
  rw [Int32.toInt_sub]
  exact Int.bmod_eq_of_le (by omega) (by omega)
theorem fmod_336 {x : Int32} (h1 : -1000000 ≤ x.toInt) (h2 : x.toInt ≤ 1000000) : (i_fmod x 336).toInt = x.toInt % 336 := by
  have e0 : (336 : Int32).toInt = 336 := rfl
  have hq : (x / 336).toInt = x.toInt.tdiv 336 := by
    rw [Int32.toInt_div, e0]
    have a1 : x.toInt.tdiv 336 ≤ 1000000 ∧ -1000000 ≤ x.toInt.tdiv 336 := by
      by_cases hx : 0 ≤ x.toInt
      · rw [Int.tdiv_eq_ediv_of_nonneg hx]
        omega
      · have e : x.toInt.tdiv 336 = -((-x.toInt) / 336) := by
          rw [show x.toInt = -(-x.toInt) by omega, Int.neg_tdiv, Int.tdiv_eq_ediv_of_nonneg (by omega), Int.neg_neg]
        rw [e]
        omega
    exact Int.bmod_eq_of_le (by omega) (by omega)
  have hr : (x - x / 336 * 336).toInt = x.toInt - x.toInt.tdiv 336 * 336 := by
    have m : (x / 336 * 336).toInt = x.toInt.tdiv 336 * 336 ∧ -1000000 ≤ x.toInt.tdiv 336 * 336 ∧ x.toInt.tdiv 336 * 336 ≤ 1000000 := by
      have a1 : -1000000 ≤ x.toInt.tdiv 336 * 336 ∧ x.toInt.tdiv 336 * 336 ≤ 1000000 := by
        by_cases hx : 0 ≤ x.toInt
        · rw [Int.tdiv_eq_ediv_of_nonneg hx]
          omega
        · have e : x.toInt.tdiv 336 = -((-x.toInt) / 336) := by
            rw [show x.toInt = -(-x.toInt) by omega, Int.neg_tdiv, Int.tdiv_eq_ediv_of_nonneg (by omega), Int.neg_neg]
          rw [e]
          omega
      refine ⟨?_, a1⟩
      rw [Int32.toInt_mul, hq, e0]
      exact Int.bmod_eq_of_le (by omega) (by omega)
    rw [i_subR (by rw [m.1]; omega) (by rw [m.1]; omega), m.1]
  have hz : ∀ y : Int32, y = 0 ↔ y.toInt = 0 := fun y => ⟨fun h => by rw [h]; rfl, fun h => Int32.toInt_inj.mp (h.trans Int32.toInt_zero.symm)⟩
  unfold i_fmod
  by_cases hx : 0 ≤ x.toInt
  · rw [if_neg (fun z => by
      have := (xor_neg x (y := 336) (by decide)).mp z.1
      omega), hr, Int.tdiv_eq_ediv_of_nonneg hx]
    omega
  · have e : x.toInt.tdiv 336 = -((-x.toInt) / 336) := by
      rw [show x.toInt = -(-x.toInt) by omega, Int.neg_tdiv, Int.tdiv_eq_ediv_of_nonneg (by omega), Int.neg_neg]
    have hneg : (x ^^^ 336) < 0 := (xor_neg x (y := 336) (by decide)).mpr (by omega)
    rw [e] at hr
    by_cases h0 : x - x / 336 * 336 = 0
    · rw [if_neg (fun z => z.2 h0)]
      have := (hz _).mp h0
      rw [this]
      omega
    · rw [if_pos ⟨hneg, h0⟩]
      have h0' : ¬ (x - x / 336 * 336).toInt = 0 := fun z => h0 ((hz _).mpr z)
      rw [i_addR (by rw [e0]; omega) (by rw [e0]; omega), e0]
      omega
theorem yl_wanted {n c r : Nat} {S : SS} {g : Nat → Int32} (hV : VS n S g c) (hT : (g 1).toInt ≤ 100000) (hr : r < rn g) : AM yL_wanted cL_wanted 6 (some .int) [] 2 0 0 [.ref 0, .int (of g r 7), .int (tgt g r), .int (of g r 0), .int (of g r 1)] n (Hp S) (PI (wnt g r) n S) := by
  intro has
  change WA RL cL_wanted 6 [] _ _ 0 0 0 [some (.ref 0), some (.int (of g r 7)), some (.int (tgt g r)), some (.int (of g r 0)), some (.int (of g r 1)), none] [] n _
  have ho := hV.j.1.OV hr (by omega)
  refine wa_aload_n dL_wanted_0 rfl ?_
  refine wa_bipush (x := 9) dL_wanted_1 (by decide) ?_
  refine c_VI (As := [.int 9]) dL_wanted_3 (vr_property_0_9 hV.1 hV.2.1 hV.j.1) lk_L_115 rfl (isO_VR _ _ _) rfl (ltS hV.1) ?_
  refine wa_iload_n dL_wanted_6 rfl ?_
  refine wa_iload_n dL_wanted_7 rfl ?_
  refine wa_isub dL_wanted_8 ?_
  refine wa_imul dL_wanted_9 ?_
  refine wa_istore dL_wanted_10 rfl ?_
  refine wa_iload_n dL_wanted_12 rfl ?_
  by_cases c7 : 0 < of g r 7
  · refine wa_if_le 20 dL_wanted_13 rfl (fun z => absurd c7 (Int32.not_lt.mpr z)) (fun _ => ?_)
    refine wa_iconst (x := 0) dL_wanted_16 (by decide) ?_
    refine wa_goto 51 dL_wanted_17 rfl ?_
    exact wa_ireturn dL_wanted_51 ⟨Nat.le_refl _, Nat.le_refl _, ⟨_, rfl, rfl⟩, ri (show (0 : Int32) = wnt g r from (if_pos c7).symm), rfl, rfl⟩
  · refine wa_if_le 20 dL_wanted_13 rfl (fun _ => ?_) (fun z => absurd (Int32.not_lt.mp c7) z)
    refine wa_iload_n dL_wanted_20 rfl ?_
    refine wa_iload_n dL_wanted_21 rfl ?_
    refine wa_isub dL_wanted_22 ?_
    refine c_SI dL_wanted_23 (am_abs _) lk_L_190 rfl ?_
    refine wa_aload_n dL_wanted_26 rfl ?_
    refine wa_bipush (x := 8) dL_wanted_27 (by decide) ?_
    refine c_VI (As := [.int 8]) dL_wanted_29 (vr_property_0_8 hV.1 hV.2.1 hV.j.1) lk_L_115 rfl (isO_VR _ _ _) rfl (ltS hV.1) ?_
    by_cases cb : i_abs (mis g r) ≤ g 7
    · refine wa_icmp_gt 40 dL_wanted_32 rfl (fun z => absurd cb (Int32.not_le.mpr z)) (fun _ => ?_)
      refine wa_iload dL_wanted_35 rfl ?_
      refine wa_goto 51 dL_wanted_37 rfl ?_
      exact wa_ireturn dL_wanted_51 ⟨Nat.le_refl _, Nat.le_refl _, ⟨_, rfl, rfl⟩, ri (by unfold wnt; rw [if_neg c7, if_pos cb]), rfl, rfl⟩
    · refine wa_icmp_gt 40 dL_wanted_32 rfl (fun _ => ?_) (fun z => absurd (Int32.not_le.mp cb) z)
      refine wa_iconst (x := 0) dL_wanted_40 (by decide) ?_
      refine wa_bipush (x := 100) dL_wanted_41 (by decide) ?_
      refine wa_iload dL_wanted_43 rfl ?_
      refine c_SI dL_wanted_45 (am_min _ _) lk_L_30 rfl ?_
      refine c_SI dL_wanted_48 (am_max _ _) lk_L_193 rfl ?_
      exact wa_ireturn dL_wanted_51 ⟨Nat.le_refl _, Nat.le_refl _, ⟨_, rfl, rfl⟩, ri (by unfold wnt; rw [if_neg c7, if_neg cb]; exact clamp_eq ho.1 ho.2), rfl, rfl⟩
theorem st_A {Q : ab_Q} {n c r : Nat} {S : SS} {g : Nat → Int32} {e2 e3 e4 e5 : Option Value} (F : FLW) (hV : VS n S g c) (hT : (g 1).toInt ≤ 100000) (hr : r < rn g) (hQ : WA RL cL_stands 6 [] (ab_rm 4 0 0) Q 0 0 112 [some (.ref 0), some (.int (nI r)), e2, e3, e4, e5] [] n (Hp S)) : WA RL cL_stands 6 [] (ab_rm 4 0 0) Q 0 0 11 [some (.ref 0), some (.int (nI r)), e2, e3, e4, e5] [] n (Hp S) := by
  have h6 := hV.g0.2
  have hR := hV.j.1.RG hr
  have hX := hV.j.2.1 r hr
  have hG := (hV.j.1.2.2.2.2 r hr).2
  have l0 : ∀ x : Int32, 0 ≤ x.toInt → ¬ x < 0 := fun x h z => by
    rw [Int32.lt_iff_toInt_lt, Int32.toInt_zero] at z
    omega
  refine wa_aload_n dL_stands_11 rfl ?_
  refine wa_iload_n dL_stands_12 rfl ?_
  refine wa_iconst (x := 1) dL_stands_13 (by decide) ?_
  refine c_VI (As := [.int (nI r), .int 1]) dL_stands_14 (vr_room_0_1 hV.1 hV.2.1 hV.j.1 (by omega) hr) lk_L_177 rfl (isO_VR _ _ _) rfl (ltS hV.1) ?_
  refine wa_if_lt 110 dL_stands_17 rfl (fun c17 => absurd c17 (l0 _ hR.1.1)) (fun c17 => ?_)
  refine wa_aload_n dL_stands_20 rfl ?_
  refine wa_iload_n dL_stands_21 rfl ?_
  refine wa_iconst (x := 1) dL_stands_22 (by decide) ?_
  refine c_VI (As := [.int (nI r), .int 1]) dL_stands_23 (vr_room_0_1 hV.1 hV.2.1 hV.j.1 (by omega) hr) lk_L_177 rfl (isO_VR _ _ _) rfl (ltS hV.1) ?_
  refine wa_bipush (x := 100) dL_stands_26 (by decide) ?_
  refine wa_icmp_gt 110 dL_stands_28 rfl (fun c28 => absurd c28 (fun z => by rw [Int32.lt_iff_toInt_lt, show (100 : Int32).toInt = 100 from rfl] at z; have := hR.1.2; omega)) (fun c28 => ?_)
  refine wa_aload_n dL_stands_31 rfl ?_
  refine wa_iload_n dL_stands_32 rfl ?_
  refine wa_iconst (x := 2) dL_stands_33 (by decide) ?_
  refine c_VI (As := [.int (nI r), .int 2]) dL_stands_34 (vr_room_0_2 hV.1 hV.2.1 hV.j.1 (by omega) hr) lk_L_177 rfl (isO_VR _ _ _) rfl (ltS hV.1) ?_
  refine wa_if_lt 110 dL_stands_37 rfl (fun c37 => absurd c37 (l0 _ hR.2.1)) (fun c37 => ?_)
  refine wa_aload_n dL_stands_40 rfl ?_
  refine wa_iload_n dL_stands_41 rfl ?_
  refine wa_bipush (x := 7) dL_stands_42 (by decide) ?_
  refine c_VI (As := [.int (nI r), .int 7]) dL_stands_44 (vr_room_0_7 hV.1 hV.2.1 hV.j.1 (by omega) hr) lk_L_177 rfl (isO_VR _ _ _) rfl (ltS hV.1) ?_
  refine wa_if_lt 110 dL_stands_47 rfl (fun c47 => absurd c47 (l0 _ hX.1.1)) (fun c47 => ?_)
  refine wa_aload_n dL_stands_50 rfl ?_
  refine wa_iload_n dL_stands_51 rfl ?_
  refine wa_bipush (x := 7) dL_stands_52 (by decide) ?_
  refine c_VI (As := [.int (nI r), .int 7]) dL_stands_54 (vr_room_0_7 hV.1 hV.2.1 hV.j.1 (by omega) hr) lk_L_177 rfl (isO_VR _ _ _) rfl (ltS hV.1) ?_
  refine wa_aload_n dL_stands_57 rfl ?_
  refine wa_bipush (x := 6) dL_stands_58 (by decide) ?_
  refine c_VI (As := [.int 6]) dL_stands_60 (vr_property_0_6 hV.1 hV.2.1 hV.j.1) lk_L_115 rfl (isO_VR _ _ _) rfl (ltS hV.1) ?_
  refine wa_icmp_gt 110 dL_stands_63 rfl (fun c63 => absurd c63 (fun z => by rw [Int32.lt_iff_toInt_lt] at z; have := hX.1.2; omega)) (fun c63 => ?_)
  refine wa_aload_n dL_stands_66 rfl ?_
  refine wa_iload_n dL_stands_67 rfl ?_
  refine wa_bipush (x := 9) dL_stands_68 (by decide) ?_
  refine c_VI (As := [.int (nI r), .int 9]) dL_stands_70 (vr_room_0_9 hV.1 hV.2.1 hV.j.1 (by omega) hr) lk_L_177 rfl (isO_VR _ _ _) rfl (ltS hV.1) ?_
  refine wa_if_lt 110 dL_stands_73 rfl (fun c73 => absurd c73 (l0 _ hG.2.2.2.1.1)) (fun c73 => ?_)
  refine wa_aload_n dL_stands_76 rfl ?_
  refine wa_iload_n dL_stands_77 rfl ?_
  refine wa_bipush (x := 8) dL_stands_78 (by decide) ?_
  refine c_VI (As := [.int (nI r), .int 8]) dL_stands_80 (vr_room_0_8 hV.1 hV.2.1 hV.j.1 (by omega) hr) lk_L_177 rfl (isO_VR _ _ _) rfl (ltS hV.1) ?_
  refine wa_iconst (x := (-1)) dL_stands_83 (by decide) ?_
  by_cases z9 : of g r 9 = 0
  · rw [if_pos z9]
    refine wa_icmp_ne 91 dL_stands_84 rfl (fun c84 => absurd rfl c84) (fun c84 => ?_)
    refine wa_iconst (x := 1) dL_stands_87 (by decide) ?_
    refine wa_goto 92 dL_stands_88 rfl ?_
    refine wa_aload_n dL_stands_92 rfl ?_
    refine wa_iload_n dL_stands_93 rfl ?_
    refine wa_bipush (x := 9) dL_stands_94 (by decide) ?_
    refine c_VI (As := [.int (nI r), .int 9]) dL_stands_96 (vr_room_0_9 hV.1 hV.2.1 hV.j.1 (by omega) hr) lk_L_177 rfl (isO_VR _ _ _) rfl (ltS hV.1) ?_
    refine wa_if_ne 106 dL_stands_99 rfl (fun c99 => absurd z9 c99) (fun c99 => ?_)
    refine wa_iconst (x := 1) dL_stands_102 (by decide) ?_
    refine wa_goto 107 dL_stands_103 rfl ?_
    refine wa_icmp_eq 112 dL_stands_107 rfl (fun c107 => ?_) (fun c107 => absurd (show (1 : Int32) = 1 from rfl) c107)
    exact hQ
  · rw [if_neg z9]
    have h9 : 0 < (of g r 9).toInt := by
      have a := hG.2.2.2.1.1
      rcases Int.lt_or_eq_of_le a with a | a
      · exact a
      · exact absurd (Int32.toInt_inj.mp (a.symm.trans Int32.toInt_zero.symm)) z9
    refine wa_icmp_ne 91 dL_stands_84 rfl (fun c84 => ?_) (fun c84 => absurd c84 ((fun z => by have a := (hG.2.2.2.1.2 h9).1; rw [z] at a; exact absurd a (by decide) : ¬ of g r 8 = -1)))
    refine wa_iconst (x := 0) dL_stands_91 (by decide) ?_
    refine wa_aload_n dL_stands_92 rfl ?_
    refine wa_iload_n dL_stands_93 rfl ?_
    refine wa_bipush (x := 9) dL_stands_94 (by decide) ?_
    refine c_VI (As := [.int (nI r), .int 9]) dL_stands_96 (vr_room_0_9 hV.1 hV.2.1 hV.j.1 (by omega) hr) lk_L_177 rfl (isO_VR _ _ _) rfl (ltS hV.1) ?_
    refine wa_if_ne 106 dL_stands_99 rfl (fun c99 => ?_) (fun c99 => absurd c99 (z9))
    refine wa_iconst (x := 0) dL_stands_106 (by decide) ?_
    refine wa_icmp_eq 112 dL_stands_107 rfl (fun c107 => ?_) (fun c107 => absurd (show (0 : Int32) = 0 from rfl) c107)
    exact hQ
theorem st_B {Q : ab_Q} {n c r : Nat} {S : SS} {g : Nat → Int32} {e2 e3 e4 e5 : Option Value} (F : FLW) (hV : VS n S g c) (hT : (g 1).toInt ≤ 100000) (hr : r < rn g) (hQ : WA RL cL_stands 6 [] (ab_rm 4 0 0) Q 0 0 174 [some (.ref 0), some (.int (nI r)), e2, e3, e4, e5] [] n (Hp S)) : WA RL cL_stands 6 [] (ab_rm 4 0 0) Q 0 0 112 [some (.ref 0), some (.int (nI r)), e2, e3, e4, e5] [] n (Hp S) := by
  have h6 := hV.g0.2
  have hX := hV.j.2.1 r hr
  have hG := (hV.j.1.2.2.2.2 r hr).2
  have t0 := hV.g1
  have e100 : (100 * g 1).toInt = 100 * (g 1).toInt := by
    rw [Int32.toInt_mul, show (100 : Int32).toInt = 100 from rfl]
    exact Int.bmod_eq_of_le (by omega) (by omega)
  refine wa_aload_n dL_stands_112 rfl ?_
  refine wa_iload_n dL_stands_113 rfl ?_
  refine c_VI (As := [.int (nI r)]) dL_stands_114 (vr_reckoned_0 hV.1 hV.2.1 hV.j.1 (by omega) hr) lk_L_196 rfl (isO_VR _ _ _) rfl (ltS hV.1) ?_
  refine wa_aload_n dL_stands_117 rfl ?_
  refine wa_iload_n dL_stands_118 rfl ?_
  refine wa_iconst (x := 2) dL_stands_119 (by decide) ?_
  refine c_VI (As := [.int (nI r), .int 2]) dL_stands_120 (vr_room_0_2 hV.1 hV.2.1 hV.j.1 (by omega) hr) lk_L_177 rfl (isO_VR _ _ _) rfl (ltS hV.1) ?_
  refine wa_icmp_ne 172 dL_stands_123 rfl (fun c123 => absurd rfl c123) (fun c123 => ?_)
  refine wa_aload_n dL_stands_126 rfl ?_
  refine wa_iload_n dL_stands_127 rfl ?_
  refine wa_iconst (x := 4) dL_stands_128 (by decide) ?_
  refine c_VI (As := [.int (nI r), .int (nI 4)]) dL_stands_129 (vr_count_0 (w := 4) hV.1 hV.2.1 hV.j.1 (by omega) hr (by decide) (inrN (lo := 0) (hi := 5) (by decide) (by decide) (by decide))) lk_L_180 rfl (isO_VR _ _ _) rfl (ltS hV.1) ?_
  refine wa_aload_n dL_stands_132 rfl ?_
  refine wa_iconst (x := 1) dL_stands_133 (by decide) ?_
  refine c_VI (As := [.int 1]) dL_stands_134 (vr_property_0_1 hV.1 hV.2.1 hV.j.1) lk_L_115 rfl (isO_VR _ _ _) rfl (ltS hV.1) ?_
  refine wa_icmp_gt 172 dL_stands_137 rfl (fun c137 => absurd c137 (fun z => by have q : (g 1).toInt < (of g r 16).toInt := Int32.lt_iff_toInt_lt.mp z; have := hX.2.1.2; omega)) (fun c137 => ?_)
  refine wa_aload_n dL_stands_140 rfl ?_
  refine wa_iload_n dL_stands_141 rfl ?_
  refine wa_iconst (x := 5) dL_stands_142 (by decide) ?_
  refine c_VI (As := [.int (nI r), .int (nI 5)]) dL_stands_143 (vr_count_0 (w := 5) hV.1 hV.2.1 hV.j.1 (by omega) hr (by decide) (inrN (lo := 0) (hi := 5) (by decide) (by decide) (by decide))) lk_L_180 rfl (isO_VR _ _ _) rfl (ltS hV.1) ?_
  refine wa_aload_n dL_stands_146 rfl ?_
  refine wa_iconst (x := 1) dL_stands_147 (by decide) ?_
  refine c_VI (As := [.int 1]) dL_stands_148 (vr_property_0_1 hV.1 hV.2.1 hV.j.1) lk_L_115 rfl (isO_VR _ _ _) rfl (ltS hV.1) ?_
  refine wa_icmp_gt 172 dL_stands_151 rfl (fun c151 => absurd c151 (fun z => by have q : (g 1).toInt < (of g r 17).toInt := Int32.lt_iff_toInt_lt.mp z; have := hX.2.2.2; omega)) (fun c151 => ?_)
  refine wa_aload_n dL_stands_154 rfl ?_
  refine wa_iload_n dL_stands_155 rfl ?_
  refine wa_bipush (x := 10) dL_stands_156 (by decide) ?_
  refine c_VI (As := [.int (nI r), .int 10]) dL_stands_158 (vr_room_0_10 hV.1 hV.2.1 hV.j.1 (by omega) hr) lk_L_177 rfl (isO_VR _ _ _) rfl (ltS hV.1) ?_
  refine wa_bipush (x := 100) dL_stands_161 (by decide) ?_
  refine wa_aload_n dL_stands_163 rfl ?_
  refine wa_iconst (x := 1) dL_stands_164 (by decide) ?_
  refine c_VI (As := [.int 1]) dL_stands_165 (vr_property_0_1 hV.1 hV.2.1 hV.j.1) lk_L_115 rfl (isO_VR _ _ _) rfl (ltS hV.1) ?_
  refine wa_imul dL_stands_168 ?_
  refine wa_icmp_le 174 dL_stands_169 rfl (fun c169 => ?_) (fun c169 => absurd ((by rw [Int32.le_iff_toInt_le, e100]; exact hG.2.2.2.2.1.2)) c169)
  exact hQ
theorem st_C {Q : ab_Q} {n c r : Nat} {S : SS} {g : Nat → Int32} {e2 e3 e4 e5 : Option Value} (F : FLW) (hV : VS n S g c) (hT : (g 1).toInt ≤ 100000) (hr : r < rn g) (hQ : WA RL cL_stands 6 [] (ab_rm 4 0 0) Q 0 0 233 [some (.ref 0), some (.int (nI r)), (some (.int (tgt g r))), (some (.int (tgt g r))), e4, e5] [] n (Hp S)) : WA RL cL_stands 6 [] (ab_rm 4 0 0) Q 0 0 174 [some (.ref 0), some (.int (nI r)), e2, e3, e4, e5] [] n (Hp S) := by
  have h6 := hV.g0.2
  have t0 := hV.g1
  have htod : g 1 - g 1 / 48 * 48 = nI (tod g) := by
    have e := nI_of_nn t0
    have q := nI_rem (a := (g 1).toInt.toNat) (b := 48) e.2 (by decide) (by decide)
    rw [← e.1] at q
    exact q
  refine wa_aload_n dL_stands_174 rfl ?_
  refine wa_iload_n dL_stands_175 rfl ?_
  refine c_VI (As := [.int (nI r)]) dL_stands_176 (vr_target_0 hV.1 hV.2.1 hV.j.1 (by omega) hr) lk_L_199 rfl (isO_VR _ _ _) rfl (ltS hV.1) ?_
  refine wa_istore_n dL_stands_179 rfl ?_
  refine wa_aload_n dL_stands_180 rfl ?_
  refine wa_iload_n dL_stands_181 rfl ?_
  refine wa_bipush (x := 9) dL_stands_182 (by decide) ?_
  refine c_VI (As := [.int (nI r), .int 9]) dL_stands_184 (vr_room_0_9 hV.1 hV.2.1 hV.j.1 (by omega) hr) lk_L_177 rfl (isO_VR _ _ _) rfl (ltS hV.1) ?_
  have tail : ∀ x : Int32, x = tgt g r → WA RL cL_stands 6 [] (ab_rm 4 0 0) Q 0 0 232 [some (.ref 0), some (.int (nI r)), (some (.int (tgt g r))), e3, e4, e5] [.int x] n (Hp S) := by
    intro x hx
    rw [hx]
    refine wa_istore_n dL_stands_232 rfl ?_
    exact hQ
  by_cases c9 : 0 < of g r 9
  · refine wa_if_le 200 dL_stands_187 rfl (fun z => absurd c9 (Int32.not_lt.mpr z)) (fun _ => ?_)
    refine wa_aload_n dL_stands_190 rfl ?_
    refine wa_iload_n dL_stands_191 rfl ?_
    refine wa_bipush (x := 8) dL_stands_192 (by decide) ?_
    refine c_VI (As := [.int (nI r), .int 8]) dL_stands_194 (vr_room_0_8 hV.1 hV.2.1 hV.j.1 (by omega) hr) lk_L_177 rfl (isO_VR _ _ _) rfl (ltS hV.1) ?_
    have h9 : ¬ of g r 9 = 0 := fun z => by
      rw [z] at c9
      exact absurd c9 (by decide)
    rw [if_neg h9]
    refine wa_goto 232 dL_stands_197 rfl ?_
    exact tail _ (by unfold tgt; rw [if_pos c9])
  · refine wa_if_le 200 dL_stands_187 rfl (fun _ => ?_) (fun z => absurd (Int32.not_lt.mp c9) z)
    refine wa_aload_n dL_stands_200 rfl ?_
    refine wa_iload_n dL_stands_201 rfl ?_
    refine wa_aload_n dL_stands_202 rfl ?_
    refine wa_iconst (x := 2) dL_stands_203 (by decide) ?_
    refine c_VI (As := [.int 2]) dL_stands_204 (vr_property_0_2 hV.1 hV.2.1 hV.j.1) lk_L_115 rfl (isO_VR _ _ _) rfl (ltS hV.1) ?_
    rw [htod]
    refine c_VI (As := [.int (nI r), .int (nI (tod g))]) dL_stands_207 (vr_programmed_0 (w := tod g) hV.1 hV.2.1 hV.j.1 (by omega) hr (Nat.mod_lt _ (by decide)) (inrN (lo := 0) (hi := 47) (Nat.zero_le _) (Nat.le_of_lt_succ (Nat.mod_lt _ (by decide))) (by decide))) lk_L_183 rfl (isO_VR _ _ _) rfl (ltS hV.1) ?_
    refine wa_aload_n dL_stands_210 rfl ?_
    refine wa_iload_n dL_stands_211 rfl ?_
    refine wa_bipush (x := 6) dL_stands_212 (by decide) ?_
    refine c_VI (As := [.int (nI r), .int 6]) dL_stands_214 (vr_room_0_6 hV.1 hV.2.1 hV.j.1 (by omega) hr) lk_L_177 rfl (isO_VR _ _ _) rfl (ltS hV.1) ?_
    refine wa_iconst (x := 1) dL_stands_217 (by decide) ?_
    by_cases c6 : of g r 6 = 1
    · refine wa_icmp_ne 225 dL_stands_218 rfl (fun z => absurd c6 z) (fun _ => ?_)
      refine wa_iconst (x := 0) dL_stands_221 (by decide) ?_
      refine wa_goto 231 dL_stands_222 rfl ?_
      refine wa_isub dL_stands_231 ?_
      exact tail _ (by unfold tgt; rw [if_neg c9, if_pos c6])
    · refine wa_icmp_ne 225 dL_stands_218 rfl (fun _ => ?_) (fun z => absurd z c6)
      refine wa_aload_n dL_stands_225 rfl ?_
      refine wa_bipush (x := 7) dL_stands_226 (by decide) ?_
      refine c_VI (As := [.int 7]) dL_stands_228 (vr_property_0_7 hV.1 hV.2.1 hV.j.1) lk_L_115 rfl (isO_VR _ _ _) rfl (ltS hV.1) ?_
      refine wa_isub dL_stands_231 ?_
      exact tail _ (by unfold tgt; rw [if_neg c9, if_neg c6])
theorem st_D {Q : ab_Q} {n c r : Nat} {S : SS} {g : Nat → Int32} {e4 e5 : Option Value} (F : FLW) (hV : VS n S g c) (hT : (g 1).toInt ≤ 100000) (hr : r < rn g) (hQ : WA RL cL_stands 6 [] (ab_rm 4 0 0) Q 0 0 272 [some (.ref 0), some (.int (nI r)), (some (.int (tgt g r))), (some (.int (tgt g r))), e4, e5] [] n (Hp S)) : WA RL cL_stands 6 [] (ab_rm 4 0 0) Q 0 0 233 [some (.ref 0), some (.int (nI r)), (some (.int (tgt g r))), (some (.int (tgt g r))), e4, e5] [] n (Hp S) := by
  have h6 := hV.g0.2
  refine wa_iload_n dL_stands_233 rfl ?_
  refine wa_iload_n dL_stands_234 rfl ?_
  refine wa_icmp_ne 270 dL_stands_235 rfl (fun c235 => absurd rfl c235) (fun c235 => ?_)
  refine wa_aload_n dL_stands_238 rfl ?_
  refine wa_iload_n dL_stands_239 rfl ?_
  refine c_VI (As := [.int (nI r)]) dL_stands_240 (vr_wanted_0 hV.1 hV.2.1 hV.j.1 (by omega) hr) lk_L_202 rfl (isO_VR _ _ _) rfl (ltS hV.1) ?_
  refine wa_aload_n dL_stands_243 rfl ?_
  refine wa_aload_n dL_stands_244 rfl ?_
  refine wa_iload_n dL_stands_245 rfl ?_
  refine wa_bipush (x := 7) dL_stands_246 (by decide) ?_
  refine c_VI (As := [.int (nI r), .int 7]) dL_stands_248 (vr_room_0_7 hV.1 hV.2.1 hV.j.1 (by omega) hr) lk_L_177 rfl (isO_VR _ _ _) rfl (ltS hV.1) ?_
  refine wa_iload_n dL_stands_251 rfl ?_
  refine wa_aload_n dL_stands_252 rfl ?_
  refine wa_iload_n dL_stands_253 rfl ?_
  refine wa_iconst (x := 0) dL_stands_254 (by decide) ?_
  refine c_VI (As := [.int (nI r), .int 0]) dL_stands_255 (vr_room_0_0 hV.1 hV.2.1 hV.j.1 (by omega) hr) lk_L_177 rfl (isO_VR _ _ _) rfl (ltS hV.1) ?_
  refine wa_aload_n dL_stands_258 rfl ?_
  refine wa_iload_n dL_stands_259 rfl ?_
  refine wa_iconst (x := 1) dL_stands_260 (by decide) ?_
  refine c_VI (As := [.int (nI r), .int 1]) dL_stands_261 (vr_room_0_1 hV.1 hV.2.1 hV.j.1 (by omega) hr) lk_L_177 rfl (isO_VR _ _ _) rfl (ltS hV.1) ?_
  refine c_SI (As := [.ref 0, .int (of g r 7), .int (tgt g r), .int (of g r 0), .int (of g r 1)]) dL_stands_264 (yl_wanted hV hT hr) lk_L_205 rfl ?_
  refine wa_icmp_eq 272 dL_stands_267 rfl (fun c267 => ?_) (fun c267 => absurd (rfl) c267)
  exact hQ
theorem st_E0 {Q : ab_Q} {n c r : Nat} {S : SS} {g : Nat → Int32} {e4 e5 : Option Value} (F : FLW) (hV : VS n S g c) (hT : (g 1).toInt ≤ 100000) (hr : r < rn g) {W : Int32} (hW : (if ¬ of g r 1 = wnt g r then (if 0 < of g r 2 then 0 else 1) else if 0 < of g r 7 then 2 else if i_abs (mis g r) ≤ g 7 then 3 else if of g r 0 < tgt g r then 5 else 4) = W) (hQ : WA RL cL_stands 6 [] (ab_rm 4 0 0) Q 0 0 279 [some (.ref 0), some (.int (nI r)), (some (.int (tgt g r))), (some (.int (tgt g r))), (some (.int W)), e5] [] n (Hp S)) : WA RL cL_stands 6 [] (ab_rm 4 0 0) Q 0 0 272 [some (.ref 0), some (.int (nI r)), (some (.int (tgt g r))), (some (.int (tgt g r))), e4, e5] [] n (Hp S) := by
  have h6 := hV.g0.2
  refine wa_aload_n dL_stands_272 rfl ?_
  refine wa_iload_n dL_stands_273 rfl ?_
  refine c_VI (As := [.int (nI r)]) dL_stands_274 (vr_why_0 hV.1 hV.2.1 hV.j.1 (by omega) hr) lk_L_208 rfl (isO_VR _ _ _) rfl (ltS hV.1) ?_
  rw [show (if ¬ of g r 1 = wnt g r then (if 0 < of g r 2 then 0 else 1) else if 0 < of g r 7 then 2 else if i_abs (mis g r) ≤ g 7 then 3 else if of g r 0 < tgt g r then 5 else 4) = W from hW]
  refine wa_istore dL_stands_277 rfl ?_
  exact hQ
theorem st_E_0 {Q : ab_Q} {n c r : Nat} {S : SS} {g : Nat → Int32} {e5 : Option Value} (F : FLW) (hV : VS n S g c) (hT : (g 1).toInt ≤ 100000) (hr : r < rn g) (hw : ¬ wnt g r = of g r 1) (h2 : ¬ of g r 2 = 0) (hQ : WA RL cL_stands 6 [] (ab_rm 4 0 0) Q 0 0 415 [some (.ref 0), some (.int (nI r)), (some (.int (tgt g r))), (some (.int (tgt g r))), (some (.int 0)), e5] [] n (Hp S)) : WA RL cL_stands 6 [] (ab_rm 4 0 0) Q 0 0 279 [some (.ref 0), some (.int (nI r)), (some (.int (tgt g r))), (some (.int (tgt g r))), (some (.int 0)), e5] [] n (Hp S) := by
  have h6 := hV.g0.2
  by_cases h7 : 0 < of g r 7
  · refine wa_iload dL_stands_279 rfl ?_
    refine wa_iconst (x := 2) dL_stands_281 (by decide) ?_
    refine wa_icmp_ge 289 dL_stands_282 rfl (fun c282 => absurd c282 (by decide)) (fun c282 => ?_)
    refine wa_iconst (x := 1) dL_stands_285 (by decide) ?_
    refine wa_goto 290 dL_stands_286 rfl ?_
    refine wa_aload_n dL_stands_290 rfl ?_
    refine wa_iload_n dL_stands_291 rfl ?_
    refine c_VI (As := [.int (nI r)]) dL_stands_292 (vr_wanted_0 hV.1 hV.2.1 hV.j.1 (by omega) hr) lk_L_202 rfl (isO_VR _ _ _) rfl (ltS hV.1) ?_
    refine wa_aload_n dL_stands_295 rfl ?_
    refine wa_iload_n dL_stands_296 rfl ?_
    refine wa_iconst (x := 1) dL_stands_297 (by decide) ?_
    refine c_VI (As := [.int (nI r), .int 1]) dL_stands_298 (vr_room_0_1 hV.1 hV.2.1 hV.j.1 (by omega) hr) lk_L_177 rfl (isO_VR _ _ _) rfl (ltS hV.1) ?_
    refine wa_icmp_eq 308 dL_stands_301 rfl (fun c301 => absurd c301 hw) (fun c301 => ?_)
    refine wa_iconst (x := 1) dL_stands_304 (by decide) ?_
    refine wa_goto 309 dL_stands_305 rfl ?_
    refine wa_icmp_ne 413 dL_stands_309 rfl (fun c309 => absurd rfl c309) (fun c309 => ?_)
    refine wa_iload dL_stands_312 rfl ?_
    refine wa_iconst (x := 1) dL_stands_314 (by decide) ?_
    refine wa_icmp_ne 322 dL_stands_315 rfl (fun c315 => ?_) (fun c315 => absurd c315 (by decide))
    refine wa_iconst (x := 0) dL_stands_322 (by decide) ?_
    refine wa_aload_n dL_stands_323 rfl ?_
    refine wa_iload_n dL_stands_324 rfl ?_
    refine wa_iconst (x := 2) dL_stands_325 (by decide) ?_
    refine c_VI (As := [.int (nI r), .int 2]) dL_stands_326 (vr_room_0_2 hV.1 hV.2.1 hV.j.1 (by omega) hr) lk_L_177 rfl (isO_VR _ _ _) rfl (ltS hV.1) ?_
    refine wa_if_ne 342 dL_stands_329 rfl (fun c329 => ?_) (fun c329 => absurd c329 (h2))
    refine wa_iconst (x := 0) dL_stands_342 (by decide) ?_
    refine wa_icmp_ne 413 dL_stands_343 rfl (fun c343 => absurd rfl c343) (fun c343 => ?_)
    refine wa_iload dL_stands_346 rfl ?_
    refine wa_iconst (x := 2) dL_stands_348 (by decide) ?_
    refine wa_icmp_ne 356 dL_stands_349 rfl (fun c349 => ?_) (fun c349 => absurd c349 (by decide))
    refine wa_iconst (x := 0) dL_stands_356 (by decide) ?_
    refine wa_aload_n dL_stands_357 rfl ?_
    refine wa_iload_n dL_stands_358 rfl ?_
    refine wa_bipush (x := 7) dL_stands_359 (by decide) ?_
    refine c_VI (As := [.int (nI r), .int 7]) dL_stands_361 (vr_room_0_7 hV.1 hV.2.1 hV.j.1 (by omega) hr) lk_L_177 rfl (isO_VR _ _ _) rfl (ltS hV.1) ?_
    refine wa_if_le 377 dL_stands_364 rfl (fun c364 => absurd h7 (Int32.not_lt.mpr c364)) (fun c364 => ?_)
    refine wa_iload dL_stands_367 rfl ?_
    refine wa_iconst (x := 1) dL_stands_369 (by decide) ?_
    refine wa_icmp_le 377 dL_stands_370 rfl (fun c370 => ?_) (fun c370 => absurd (by decide) c370)
    refine wa_iconst (x := 0) dL_stands_377 (by decide) ?_
    refine wa_icmp_ne 413 dL_stands_378 rfl (fun c378 => absurd rfl c378) (fun c378 => ?_)
    refine wa_iload dL_stands_381 rfl ?_
    refine wa_iconst (x := 5) dL_stands_383 (by decide) ?_
    refine wa_icmp_ne 397 dL_stands_384 rfl (fun c384 => ?_) (fun c384 => absurd c384 (by decide))
    refine wa_iload dL_stands_397 rfl ?_
    refine wa_iconst (x := 4) dL_stands_399 (by decide) ?_
    refine wa_icmp_ne 415 dL_stands_400 rfl (fun c400 => ?_) (fun c400 => absurd c400 (by decide))
    exact hQ
  · refine wa_iload dL_stands_279 rfl ?_
    refine wa_iconst (x := 2) dL_stands_281 (by decide) ?_
    refine wa_icmp_ge 289 dL_stands_282 rfl (fun c282 => absurd c282 (by decide)) (fun c282 => ?_)
    refine wa_iconst (x := 1) dL_stands_285 (by decide) ?_
    refine wa_goto 290 dL_stands_286 rfl ?_
    refine wa_aload_n dL_stands_290 rfl ?_
    refine wa_iload_n dL_stands_291 rfl ?_
    refine c_VI (As := [.int (nI r)]) dL_stands_292 (vr_wanted_0 hV.1 hV.2.1 hV.j.1 (by omega) hr) lk_L_202 rfl (isO_VR _ _ _) rfl (ltS hV.1) ?_
    refine wa_aload_n dL_stands_295 rfl ?_
    refine wa_iload_n dL_stands_296 rfl ?_
    refine wa_iconst (x := 1) dL_stands_297 (by decide) ?_
    refine c_VI (As := [.int (nI r), .int 1]) dL_stands_298 (vr_room_0_1 hV.1 hV.2.1 hV.j.1 (by omega) hr) lk_L_177 rfl (isO_VR _ _ _) rfl (ltS hV.1) ?_
    refine wa_icmp_eq 308 dL_stands_301 rfl (fun c301 => absurd c301 hw) (fun c301 => ?_)
    refine wa_iconst (x := 1) dL_stands_304 (by decide) ?_
    refine wa_goto 309 dL_stands_305 rfl ?_
    refine wa_icmp_ne 413 dL_stands_309 rfl (fun c309 => absurd rfl c309) (fun c309 => ?_)
    refine wa_iload dL_stands_312 rfl ?_
    refine wa_iconst (x := 1) dL_stands_314 (by decide) ?_
    refine wa_icmp_ne 322 dL_stands_315 rfl (fun c315 => ?_) (fun c315 => absurd c315 (by decide))
    refine wa_iconst (x := 0) dL_stands_322 (by decide) ?_
    refine wa_aload_n dL_stands_323 rfl ?_
    refine wa_iload_n dL_stands_324 rfl ?_
    refine wa_iconst (x := 2) dL_stands_325 (by decide) ?_
    refine c_VI (As := [.int (nI r), .int 2]) dL_stands_326 (vr_room_0_2 hV.1 hV.2.1 hV.j.1 (by omega) hr) lk_L_177 rfl (isO_VR _ _ _) rfl (ltS hV.1) ?_
    refine wa_if_ne 342 dL_stands_329 rfl (fun c329 => ?_) (fun c329 => absurd c329 (h2))
    refine wa_iconst (x := 0) dL_stands_342 (by decide) ?_
    refine wa_icmp_ne 413 dL_stands_343 rfl (fun c343 => absurd rfl c343) (fun c343 => ?_)
    refine wa_iload dL_stands_346 rfl ?_
    refine wa_iconst (x := 2) dL_stands_348 (by decide) ?_
    refine wa_icmp_ne 356 dL_stands_349 rfl (fun c349 => ?_) (fun c349 => absurd c349 (by decide))
    refine wa_iconst (x := 0) dL_stands_356 (by decide) ?_
    refine wa_aload_n dL_stands_357 rfl ?_
    refine wa_iload_n dL_stands_358 rfl ?_
    refine wa_bipush (x := 7) dL_stands_359 (by decide) ?_
    refine c_VI (As := [.int (nI r), .int 7]) dL_stands_361 (vr_room_0_7 hV.1 hV.2.1 hV.j.1 (by omega) hr) lk_L_177 rfl (isO_VR _ _ _) rfl (ltS hV.1) ?_
    refine wa_if_le 377 dL_stands_364 rfl (fun c364 => ?_) (fun c364 => absurd (Int32.not_lt.mp h7) c364)
    refine wa_iconst (x := 0) dL_stands_377 (by decide) ?_
    refine wa_icmp_ne 413 dL_stands_378 rfl (fun c378 => absurd rfl c378) (fun c378 => ?_)
    refine wa_iload dL_stands_381 rfl ?_
    refine wa_iconst (x := 5) dL_stands_383 (by decide) ?_
    refine wa_icmp_ne 397 dL_stands_384 rfl (fun c384 => ?_) (fun c384 => absurd c384 (by decide))
    refine wa_iload dL_stands_397 rfl ?_
    refine wa_iconst (x := 4) dL_stands_399 (by decide) ?_
    refine wa_icmp_ne 415 dL_stands_400 rfl (fun c400 => ?_) (fun c400 => absurd c400 (by decide))
    exact hQ
theorem st_E_1 {Q : ab_Q} {n c r : Nat} {S : SS} {g : Nat → Int32} {e5 : Option Value} (F : FLW) (hV : VS n S g c) (hT : (g 1).toInt ≤ 100000) (hr : r < rn g) (hw : ¬ wnt g r = of g r 1) (h2 : of g r 2 = 0) (hQ : WA RL cL_stands 6 [] (ab_rm 4 0 0) Q 0 0 415 [some (.ref 0), some (.int (nI r)), (some (.int (tgt g r))), (some (.int (tgt g r))), (some (.int 1)), e5] [] n (Hp S)) : WA RL cL_stands 6 [] (ab_rm 4 0 0) Q 0 0 279 [some (.ref 0), some (.int (nI r)), (some (.int (tgt g r))), (some (.int (tgt g r))), (some (.int 1)), e5] [] n (Hp S) := by
  have h6 := hV.g0.2
  by_cases h7 : 0 < of g r 7
  · refine wa_iload dL_stands_279 rfl ?_
    refine wa_iconst (x := 2) dL_stands_281 (by decide) ?_
    refine wa_icmp_ge 289 dL_stands_282 rfl (fun c282 => absurd c282 (by decide)) (fun c282 => ?_)
    refine wa_iconst (x := 1) dL_stands_285 (by decide) ?_
    refine wa_goto 290 dL_stands_286 rfl ?_
    refine wa_aload_n dL_stands_290 rfl ?_
    refine wa_iload_n dL_stands_291 rfl ?_
    refine c_VI (As := [.int (nI r)]) dL_stands_292 (vr_wanted_0 hV.1 hV.2.1 hV.j.1 (by omega) hr) lk_L_202 rfl (isO_VR _ _ _) rfl (ltS hV.1) ?_
    refine wa_aload_n dL_stands_295 rfl ?_
    refine wa_iload_n dL_stands_296 rfl ?_
    refine wa_iconst (x := 1) dL_stands_297 (by decide) ?_
    refine c_VI (As := [.int (nI r), .int 1]) dL_stands_298 (vr_room_0_1 hV.1 hV.2.1 hV.j.1 (by omega) hr) lk_L_177 rfl (isO_VR _ _ _) rfl (ltS hV.1) ?_
    refine wa_icmp_eq 308 dL_stands_301 rfl (fun c301 => absurd c301 hw) (fun c301 => ?_)
    refine wa_iconst (x := 1) dL_stands_304 (by decide) ?_
    refine wa_goto 309 dL_stands_305 rfl ?_
    refine wa_icmp_ne 413 dL_stands_309 rfl (fun c309 => absurd rfl c309) (fun c309 => ?_)
    refine wa_iload dL_stands_312 rfl ?_
    refine wa_iconst (x := 1) dL_stands_314 (by decide) ?_
    refine wa_icmp_ne 322 dL_stands_315 rfl (fun c315 => absurd rfl c315) (fun c315 => ?_)
    refine wa_iconst (x := 1) dL_stands_318 (by decide) ?_
    refine wa_goto 323 dL_stands_319 rfl ?_
    refine wa_aload_n dL_stands_323 rfl ?_
    refine wa_iload_n dL_stands_324 rfl ?_
    refine wa_iconst (x := 2) dL_stands_325 (by decide) ?_
    refine c_VI (As := [.int (nI r), .int 2]) dL_stands_326 (vr_room_0_2 hV.1 hV.2.1 hV.j.1 (by omega) hr) lk_L_177 rfl (isO_VR _ _ _) rfl (ltS hV.1) ?_
    refine wa_if_ne 342 dL_stands_329 rfl (fun c329 => absurd h2 c329) (fun c329 => ?_)
    refine wa_iload dL_stands_332 rfl ?_
    refine wa_iconst (x := 2) dL_stands_334 (by decide) ?_
    refine wa_icmp_ge 342 dL_stands_335 rfl (fun c335 => absurd c335 (by decide)) (fun c335 => ?_)
    refine wa_iconst (x := 1) dL_stands_338 (by decide) ?_
    refine wa_goto 343 dL_stands_339 rfl ?_
    refine wa_icmp_ne 413 dL_stands_343 rfl (fun c343 => absurd rfl c343) (fun c343 => ?_)
    refine wa_iload dL_stands_346 rfl ?_
    refine wa_iconst (x := 2) dL_stands_348 (by decide) ?_
    refine wa_icmp_ne 356 dL_stands_349 rfl (fun c349 => ?_) (fun c349 => absurd c349 (by decide))
    refine wa_iconst (x := 0) dL_stands_356 (by decide) ?_
    refine wa_aload_n dL_stands_357 rfl ?_
    refine wa_iload_n dL_stands_358 rfl ?_
    refine wa_bipush (x := 7) dL_stands_359 (by decide) ?_
    refine c_VI (As := [.int (nI r), .int 7]) dL_stands_361 (vr_room_0_7 hV.1 hV.2.1 hV.j.1 (by omega) hr) lk_L_177 rfl (isO_VR _ _ _) rfl (ltS hV.1) ?_
    refine wa_if_le 377 dL_stands_364 rfl (fun c364 => absurd h7 (Int32.not_lt.mpr c364)) (fun c364 => ?_)
    refine wa_iload dL_stands_367 rfl ?_
    refine wa_iconst (x := 1) dL_stands_369 (by decide) ?_
    refine wa_icmp_le 377 dL_stands_370 rfl (fun c370 => ?_) (fun c370 => absurd (by decide) c370)
    refine wa_iconst (x := 0) dL_stands_377 (by decide) ?_
    refine wa_icmp_ne 413 dL_stands_378 rfl (fun c378 => absurd rfl c378) (fun c378 => ?_)
    refine wa_iload dL_stands_381 rfl ?_
    refine wa_iconst (x := 5) dL_stands_383 (by decide) ?_
    refine wa_icmp_ne 397 dL_stands_384 rfl (fun c384 => ?_) (fun c384 => absurd c384 (by decide))
    refine wa_iload dL_stands_397 rfl ?_
    refine wa_iconst (x := 4) dL_stands_399 (by decide) ?_
    refine wa_icmp_ne 415 dL_stands_400 rfl (fun c400 => ?_) (fun c400 => absurd c400 (by decide))
    exact hQ
  · refine wa_iload dL_stands_279 rfl ?_
    refine wa_iconst (x := 2) dL_stands_281 (by decide) ?_
    refine wa_icmp_ge 289 dL_stands_282 rfl (fun c282 => absurd c282 (by decide)) (fun c282 => ?_)
    refine wa_iconst (x := 1) dL_stands_285 (by decide) ?_
    refine wa_goto 290 dL_stands_286 rfl ?_
    refine wa_aload_n dL_stands_290 rfl ?_
    refine wa_iload_n dL_stands_291 rfl ?_
    refine c_VI (As := [.int (nI r)]) dL_stands_292 (vr_wanted_0 hV.1 hV.2.1 hV.j.1 (by omega) hr) lk_L_202 rfl (isO_VR _ _ _) rfl (ltS hV.1) ?_
    refine wa_aload_n dL_stands_295 rfl ?_
    refine wa_iload_n dL_stands_296 rfl ?_
    refine wa_iconst (x := 1) dL_stands_297 (by decide) ?_
    refine c_VI (As := [.int (nI r), .int 1]) dL_stands_298 (vr_room_0_1 hV.1 hV.2.1 hV.j.1 (by omega) hr) lk_L_177 rfl (isO_VR _ _ _) rfl (ltS hV.1) ?_
    refine wa_icmp_eq 308 dL_stands_301 rfl (fun c301 => absurd c301 hw) (fun c301 => ?_)
    refine wa_iconst (x := 1) dL_stands_304 (by decide) ?_
    refine wa_goto 309 dL_stands_305 rfl ?_
    refine wa_icmp_ne 413 dL_stands_309 rfl (fun c309 => absurd rfl c309) (fun c309 => ?_)
    refine wa_iload dL_stands_312 rfl ?_
    refine wa_iconst (x := 1) dL_stands_314 (by decide) ?_
    refine wa_icmp_ne 322 dL_stands_315 rfl (fun c315 => absurd rfl c315) (fun c315 => ?_)
    refine wa_iconst (x := 1) dL_stands_318 (by decide) ?_
    refine wa_goto 323 dL_stands_319 rfl ?_
    refine wa_aload_n dL_stands_323 rfl ?_
    refine wa_iload_n dL_stands_324 rfl ?_
    refine wa_iconst (x := 2) dL_stands_325 (by decide) ?_
    refine c_VI (As := [.int (nI r), .int 2]) dL_stands_326 (vr_room_0_2 hV.1 hV.2.1 hV.j.1 (by omega) hr) lk_L_177 rfl (isO_VR _ _ _) rfl (ltS hV.1) ?_
    refine wa_if_ne 342 dL_stands_329 rfl (fun c329 => absurd h2 c329) (fun c329 => ?_)
    refine wa_iload dL_stands_332 rfl ?_
    refine wa_iconst (x := 2) dL_stands_334 (by decide) ?_
    refine wa_icmp_ge 342 dL_stands_335 rfl (fun c335 => absurd c335 (by decide)) (fun c335 => ?_)
    refine wa_iconst (x := 1) dL_stands_338 (by decide) ?_
    refine wa_goto 343 dL_stands_339 rfl ?_
    refine wa_icmp_ne 413 dL_stands_343 rfl (fun c343 => absurd rfl c343) (fun c343 => ?_)
    refine wa_iload dL_stands_346 rfl ?_
    refine wa_iconst (x := 2) dL_stands_348 (by decide) ?_
    refine wa_icmp_ne 356 dL_stands_349 rfl (fun c349 => ?_) (fun c349 => absurd c349 (by decide))
    refine wa_iconst (x := 0) dL_stands_356 (by decide) ?_
    refine wa_aload_n dL_stands_357 rfl ?_
    refine wa_iload_n dL_stands_358 rfl ?_
    refine wa_bipush (x := 7) dL_stands_359 (by decide) ?_
    refine c_VI (As := [.int (nI r), .int 7]) dL_stands_361 (vr_room_0_7 hV.1 hV.2.1 hV.j.1 (by omega) hr) lk_L_177 rfl (isO_VR _ _ _) rfl (ltS hV.1) ?_
    refine wa_if_le 377 dL_stands_364 rfl (fun c364 => ?_) (fun c364 => absurd (Int32.not_lt.mp h7) c364)
    refine wa_iconst (x := 0) dL_stands_377 (by decide) ?_
    refine wa_icmp_ne 413 dL_stands_378 rfl (fun c378 => absurd rfl c378) (fun c378 => ?_)
    refine wa_iload dL_stands_381 rfl ?_
    refine wa_iconst (x := 5) dL_stands_383 (by decide) ?_
    refine wa_icmp_ne 397 dL_stands_384 rfl (fun c384 => ?_) (fun c384 => absurd c384 (by decide))
    refine wa_iload dL_stands_397 rfl ?_
    refine wa_iconst (x := 4) dL_stands_399 (by decide) ?_
    refine wa_icmp_ne 415 dL_stands_400 rfl (fun c400 => ?_) (fun c400 => absurd c400 (by decide))
    exact hQ
theorem st_E_2 {Q : ab_Q} {n c r : Nat} {S : SS} {g : Nat → Int32} {e5 : Option Value} (F : FLW) (hV : VS n S g c) (hT : (g 1).toInt ≤ 100000) (hr : r < rn g) (hw : wnt g r = of g r 1) (h7 : 0 < of g r 7) (hQ : WA RL cL_stands 6 [] (ab_rm 4 0 0) Q 0 0 415 [some (.ref 0), some (.int (nI r)), (some (.int (tgt g r))), (some (.int (tgt g r))), (some (.int 2)), e5] [] n (Hp S)) : WA RL cL_stands 6 [] (ab_rm 4 0 0) Q 0 0 279 [some (.ref 0), some (.int (nI r)), (some (.int (tgt g r))), (some (.int (tgt g r))), (some (.int 2)), e5] [] n (Hp S) := by
  have h6 := hV.g0.2
  by_cases h2 : of g r 2 = 0
  · refine wa_iload dL_stands_279 rfl ?_
    refine wa_iconst (x := 2) dL_stands_281 (by decide) ?_
    refine wa_icmp_ge 289 dL_stands_282 rfl (fun c282 => ?_) (fun c282 => absurd (by decide) c282)
    refine wa_iconst (x := 0) dL_stands_289 (by decide) ?_
    refine wa_aload_n dL_stands_290 rfl ?_
    refine wa_iload_n dL_stands_291 rfl ?_
    refine c_VI (As := [.int (nI r)]) dL_stands_292 (vr_wanted_0 hV.1 hV.2.1 hV.j.1 (by omega) hr) lk_L_202 rfl (isO_VR _ _ _) rfl (ltS hV.1) ?_
    refine wa_aload_n dL_stands_295 rfl ?_
    refine wa_iload_n dL_stands_296 rfl ?_
    refine wa_iconst (x := 1) dL_stands_297 (by decide) ?_
    refine c_VI (As := [.int (nI r), .int 1]) dL_stands_298 (vr_room_0_1 hV.1 hV.2.1 hV.j.1 (by omega) hr) lk_L_177 rfl (isO_VR _ _ _) rfl (ltS hV.1) ?_
    refine wa_icmp_eq 308 dL_stands_301 rfl (fun c301 => ?_) (fun c301 => absurd (hw) c301)
    refine wa_iconst (x := 0) dL_stands_308 (by decide) ?_
    refine wa_icmp_ne 413 dL_stands_309 rfl (fun c309 => absurd rfl c309) (fun c309 => ?_)
    refine wa_iload dL_stands_312 rfl ?_
    refine wa_iconst (x := 1) dL_stands_314 (by decide) ?_
    refine wa_icmp_ne 322 dL_stands_315 rfl (fun c315 => ?_) (fun c315 => absurd c315 (by decide))
    refine wa_iconst (x := 0) dL_stands_322 (by decide) ?_
    refine wa_aload_n dL_stands_323 rfl ?_
    refine wa_iload_n dL_stands_324 rfl ?_
    refine wa_iconst (x := 2) dL_stands_325 (by decide) ?_
    refine c_VI (As := [.int (nI r), .int 2]) dL_stands_326 (vr_room_0_2 hV.1 hV.2.1 hV.j.1 (by omega) hr) lk_L_177 rfl (isO_VR _ _ _) rfl (ltS hV.1) ?_
    refine wa_if_ne 342 dL_stands_329 rfl (fun c329 => absurd h2 c329) (fun c329 => ?_)
    refine wa_iload dL_stands_332 rfl ?_
    refine wa_iconst (x := 2) dL_stands_334 (by decide) ?_
    refine wa_icmp_ge 342 dL_stands_335 rfl (fun c335 => ?_) (fun c335 => absurd (by decide) c335)
    refine wa_iconst (x := 0) dL_stands_342 (by decide) ?_
    refine wa_icmp_ne 413 dL_stands_343 rfl (fun c343 => absurd rfl c343) (fun c343 => ?_)
    refine wa_iload dL_stands_346 rfl ?_
    refine wa_iconst (x := 2) dL_stands_348 (by decide) ?_
    refine wa_icmp_ne 356 dL_stands_349 rfl (fun c349 => absurd rfl c349) (fun c349 => ?_)
    refine wa_iconst (x := 1) dL_stands_352 (by decide) ?_
    refine wa_goto 357 dL_stands_353 rfl ?_
    refine wa_aload_n dL_stands_357 rfl ?_
    refine wa_iload_n dL_stands_358 rfl ?_
    refine wa_bipush (x := 7) dL_stands_359 (by decide) ?_
    refine c_VI (As := [.int (nI r), .int 7]) dL_stands_361 (vr_room_0_7 hV.1 hV.2.1 hV.j.1 (by omega) hr) lk_L_177 rfl (isO_VR _ _ _) rfl (ltS hV.1) ?_
    refine wa_if_le 377 dL_stands_364 rfl (fun c364 => absurd h7 (Int32.not_lt.mpr c364)) (fun c364 => ?_)
    refine wa_iload dL_stands_367 rfl ?_
    refine wa_iconst (x := 1) dL_stands_369 (by decide) ?_
    refine wa_icmp_le 377 dL_stands_370 rfl (fun c370 => absurd c370 (by decide)) (fun c370 => ?_)
    refine wa_iconst (x := 1) dL_stands_373 (by decide) ?_
    refine wa_goto 378 dL_stands_374 rfl ?_
    refine wa_icmp_ne 413 dL_stands_378 rfl (fun c378 => absurd rfl c378) (fun c378 => ?_)
    refine wa_iload dL_stands_381 rfl ?_
    refine wa_iconst (x := 5) dL_stands_383 (by decide) ?_
    refine wa_icmp_ne 397 dL_stands_384 rfl (fun c384 => ?_) (fun c384 => absurd c384 (by decide))
    refine wa_iload dL_stands_397 rfl ?_
    refine wa_iconst (x := 4) dL_stands_399 (by decide) ?_
    refine wa_icmp_ne 415 dL_stands_400 rfl (fun c400 => ?_) (fun c400 => absurd c400 (by decide))
    exact hQ
  · refine wa_iload dL_stands_279 rfl ?_
    refine wa_iconst (x := 2) dL_stands_281 (by decide) ?_
    refine wa_icmp_ge 289 dL_stands_282 rfl (fun c282 => ?_) (fun c282 => absurd (by decide) c282)
    refine wa_iconst (x := 0) dL_stands_289 (by decide) ?_
    refine wa_aload_n dL_stands_290 rfl ?_
    refine wa_iload_n dL_stands_291 rfl ?_
    refine c_VI (As := [.int (nI r)]) dL_stands_292 (vr_wanted_0 hV.1 hV.2.1 hV.j.1 (by omega) hr) lk_L_202 rfl (isO_VR _ _ _) rfl (ltS hV.1) ?_
    refine wa_aload_n dL_stands_295 rfl ?_
    refine wa_iload_n dL_stands_296 rfl ?_
    refine wa_iconst (x := 1) dL_stands_297 (by decide) ?_
    refine c_VI (As := [.int (nI r), .int 1]) dL_stands_298 (vr_room_0_1 hV.1 hV.2.1 hV.j.1 (by omega) hr) lk_L_177 rfl (isO_VR _ _ _) rfl (ltS hV.1) ?_
    refine wa_icmp_eq 308 dL_stands_301 rfl (fun c301 => ?_) (fun c301 => absurd (hw) c301)
    refine wa_iconst (x := 0) dL_stands_308 (by decide) ?_
    refine wa_icmp_ne 413 dL_stands_309 rfl (fun c309 => absurd rfl c309) (fun c309 => ?_)
    refine wa_iload dL_stands_312 rfl ?_
    refine wa_iconst (x := 1) dL_stands_314 (by decide) ?_
    refine wa_icmp_ne 322 dL_stands_315 rfl (fun c315 => ?_) (fun c315 => absurd c315 (by decide))
    refine wa_iconst (x := 0) dL_stands_322 (by decide) ?_
    refine wa_aload_n dL_stands_323 rfl ?_
    refine wa_iload_n dL_stands_324 rfl ?_
    refine wa_iconst (x := 2) dL_stands_325 (by decide) ?_
    refine c_VI (As := [.int (nI r), .int 2]) dL_stands_326 (vr_room_0_2 hV.1 hV.2.1 hV.j.1 (by omega) hr) lk_L_177 rfl (isO_VR _ _ _) rfl (ltS hV.1) ?_
    refine wa_if_ne 342 dL_stands_329 rfl (fun c329 => ?_) (fun c329 => absurd c329 (h2))
    refine wa_iconst (x := 0) dL_stands_342 (by decide) ?_
    refine wa_icmp_ne 413 dL_stands_343 rfl (fun c343 => absurd rfl c343) (fun c343 => ?_)
    refine wa_iload dL_stands_346 rfl ?_
    refine wa_iconst (x := 2) dL_stands_348 (by decide) ?_
    refine wa_icmp_ne 356 dL_stands_349 rfl (fun c349 => absurd rfl c349) (fun c349 => ?_)
    refine wa_iconst (x := 1) dL_stands_352 (by decide) ?_
    refine wa_goto 357 dL_stands_353 rfl ?_
    refine wa_aload_n dL_stands_357 rfl ?_
    refine wa_iload_n dL_stands_358 rfl ?_
    refine wa_bipush (x := 7) dL_stands_359 (by decide) ?_
    refine c_VI (As := [.int (nI r), .int 7]) dL_stands_361 (vr_room_0_7 hV.1 hV.2.1 hV.j.1 (by omega) hr) lk_L_177 rfl (isO_VR _ _ _) rfl (ltS hV.1) ?_
    refine wa_if_le 377 dL_stands_364 rfl (fun c364 => absurd h7 (Int32.not_lt.mpr c364)) (fun c364 => ?_)
    refine wa_iload dL_stands_367 rfl ?_
    refine wa_iconst (x := 1) dL_stands_369 (by decide) ?_
    refine wa_icmp_le 377 dL_stands_370 rfl (fun c370 => absurd c370 (by decide)) (fun c370 => ?_)
    refine wa_iconst (x := 1) dL_stands_373 (by decide) ?_
    refine wa_goto 378 dL_stands_374 rfl ?_
    refine wa_icmp_ne 413 dL_stands_378 rfl (fun c378 => absurd rfl c378) (fun c378 => ?_)
    refine wa_iload dL_stands_381 rfl ?_
    refine wa_iconst (x := 5) dL_stands_383 (by decide) ?_
    refine wa_icmp_ne 397 dL_stands_384 rfl (fun c384 => ?_) (fun c384 => absurd c384 (by decide))
    refine wa_iload dL_stands_397 rfl ?_
    refine wa_iconst (x := 4) dL_stands_399 (by decide) ?_
    refine wa_icmp_ne 415 dL_stands_400 rfl (fun c400 => ?_) (fun c400 => absurd c400 (by decide))
    exact hQ
theorem st_E_3 {Q : ab_Q} {n c r : Nat} {S : SS} {g : Nat → Int32} {e5 : Option Value} (F : FLW) (hV : VS n S g c) (hT : (g 1).toInt ≤ 100000) (hr : r < rn g) (hw : wnt g r = of g r 1) (h7 : ¬ 0 < of g r 7) (hQ : WA RL cL_stands 6 [] (ab_rm 4 0 0) Q 0 0 415 [some (.ref 0), some (.int (nI r)), (some (.int (tgt g r))), (some (.int (tgt g r))), (some (.int 3)), e5] [] n (Hp S)) : WA RL cL_stands 6 [] (ab_rm 4 0 0) Q 0 0 279 [some (.ref 0), some (.int (nI r)), (some (.int (tgt g r))), (some (.int (tgt g r))), (some (.int 3)), e5] [] n (Hp S) := by
  have h6 := hV.g0.2
  by_cases h2 : of g r 2 = 0
  · refine wa_iload dL_stands_279 rfl ?_
    refine wa_iconst (x := 2) dL_stands_281 (by decide) ?_
    refine wa_icmp_ge 289 dL_stands_282 rfl (fun c282 => ?_) (fun c282 => absurd (by decide) c282)
    refine wa_iconst (x := 0) dL_stands_289 (by decide) ?_
    refine wa_aload_n dL_stands_290 rfl ?_
    refine wa_iload_n dL_stands_291 rfl ?_
    refine c_VI (As := [.int (nI r)]) dL_stands_292 (vr_wanted_0 hV.1 hV.2.1 hV.j.1 (by omega) hr) lk_L_202 rfl (isO_VR _ _ _) rfl (ltS hV.1) ?_
    refine wa_aload_n dL_stands_295 rfl ?_
    refine wa_iload_n dL_stands_296 rfl ?_
    refine wa_iconst (x := 1) dL_stands_297 (by decide) ?_
    refine c_VI (As := [.int (nI r), .int 1]) dL_stands_298 (vr_room_0_1 hV.1 hV.2.1 hV.j.1 (by omega) hr) lk_L_177 rfl (isO_VR _ _ _) rfl (ltS hV.1) ?_
    refine wa_icmp_eq 308 dL_stands_301 rfl (fun c301 => ?_) (fun c301 => absurd (hw) c301)
    refine wa_iconst (x := 0) dL_stands_308 (by decide) ?_
    refine wa_icmp_ne 413 dL_stands_309 rfl (fun c309 => absurd rfl c309) (fun c309 => ?_)
    refine wa_iload dL_stands_312 rfl ?_
    refine wa_iconst (x := 1) dL_stands_314 (by decide) ?_
    refine wa_icmp_ne 322 dL_stands_315 rfl (fun c315 => ?_) (fun c315 => absurd c315 (by decide))
    refine wa_iconst (x := 0) dL_stands_322 (by decide) ?_
    refine wa_aload_n dL_stands_323 rfl ?_
    refine wa_iload_n dL_stands_324 rfl ?_
    refine wa_iconst (x := 2) dL_stands_325 (by decide) ?_
    refine c_VI (As := [.int (nI r), .int 2]) dL_stands_326 (vr_room_0_2 hV.1 hV.2.1 hV.j.1 (by omega) hr) lk_L_177 rfl (isO_VR _ _ _) rfl (ltS hV.1) ?_
    refine wa_if_ne 342 dL_stands_329 rfl (fun c329 => absurd h2 c329) (fun c329 => ?_)
    refine wa_iload dL_stands_332 rfl ?_
    refine wa_iconst (x := 2) dL_stands_334 (by decide) ?_
    refine wa_icmp_ge 342 dL_stands_335 rfl (fun c335 => ?_) (fun c335 => absurd (by decide) c335)
    refine wa_iconst (x := 0) dL_stands_342 (by decide) ?_
    refine wa_icmp_ne 413 dL_stands_343 rfl (fun c343 => absurd rfl c343) (fun c343 => ?_)
    refine wa_iload dL_stands_346 rfl ?_
    refine wa_iconst (x := 2) dL_stands_348 (by decide) ?_
    refine wa_icmp_ne 356 dL_stands_349 rfl (fun c349 => ?_) (fun c349 => absurd c349 (by decide))
    refine wa_iconst (x := 0) dL_stands_356 (by decide) ?_
    refine wa_aload_n dL_stands_357 rfl ?_
    refine wa_iload_n dL_stands_358 rfl ?_
    refine wa_bipush (x := 7) dL_stands_359 (by decide) ?_
    refine c_VI (As := [.int (nI r), .int 7]) dL_stands_361 (vr_room_0_7 hV.1 hV.2.1 hV.j.1 (by omega) hr) lk_L_177 rfl (isO_VR _ _ _) rfl (ltS hV.1) ?_
    refine wa_if_le 377 dL_stands_364 rfl (fun c364 => ?_) (fun c364 => absurd (Int32.not_lt.mp h7) c364)
    refine wa_iconst (x := 0) dL_stands_377 (by decide) ?_
    refine wa_icmp_ne 413 dL_stands_378 rfl (fun c378 => absurd rfl c378) (fun c378 => ?_)
    refine wa_iload dL_stands_381 rfl ?_
    refine wa_iconst (x := 5) dL_stands_383 (by decide) ?_
    refine wa_icmp_ne 397 dL_stands_384 rfl (fun c384 => ?_) (fun c384 => absurd c384 (by decide))
    refine wa_iload dL_stands_397 rfl ?_
    refine wa_iconst (x := 4) dL_stands_399 (by decide) ?_
    refine wa_icmp_ne 415 dL_stands_400 rfl (fun c400 => ?_) (fun c400 => absurd c400 (by decide))
    exact hQ
  · refine wa_iload dL_stands_279 rfl ?_
    refine wa_iconst (x := 2) dL_stands_281 (by decide) ?_
    refine wa_icmp_ge 289 dL_stands_282 rfl (fun c282 => ?_) (fun c282 => absurd (by decide) c282)
    refine wa_iconst (x := 0) dL_stands_289 (by decide) ?_
    refine wa_aload_n dL_stands_290 rfl ?_
    refine wa_iload_n dL_stands_291 rfl ?_
    refine c_VI (As := [.int (nI r)]) dL_stands_292 (vr_wanted_0 hV.1 hV.2.1 hV.j.1 (by omega) hr) lk_L_202 rfl (isO_VR _ _ _) rfl (ltS hV.1) ?_
    refine wa_aload_n dL_stands_295 rfl ?_
    refine wa_iload_n dL_stands_296 rfl ?_
    refine wa_iconst (x := 1) dL_stands_297 (by decide) ?_
    refine c_VI (As := [.int (nI r), .int 1]) dL_stands_298 (vr_room_0_1 hV.1 hV.2.1 hV.j.1 (by omega) hr) lk_L_177 rfl (isO_VR _ _ _) rfl (ltS hV.1) ?_
    refine wa_icmp_eq 308 dL_stands_301 rfl (fun c301 => ?_) (fun c301 => absurd (hw) c301)
    refine wa_iconst (x := 0) dL_stands_308 (by decide) ?_
    refine wa_icmp_ne 413 dL_stands_309 rfl (fun c309 => absurd rfl c309) (fun c309 => ?_)
    refine wa_iload dL_stands_312 rfl ?_
    refine wa_iconst (x := 1) dL_stands_314 (by decide) ?_
    refine wa_icmp_ne 322 dL_stands_315 rfl (fun c315 => ?_) (fun c315 => absurd c315 (by decide))
    refine wa_iconst (x := 0) dL_stands_322 (by decide) ?_
    refine wa_aload_n dL_stands_323 rfl ?_
    refine wa_iload_n dL_stands_324 rfl ?_
    refine wa_iconst (x := 2) dL_stands_325 (by decide) ?_
    refine c_VI (As := [.int (nI r), .int 2]) dL_stands_326 (vr_room_0_2 hV.1 hV.2.1 hV.j.1 (by omega) hr) lk_L_177 rfl (isO_VR _ _ _) rfl (ltS hV.1) ?_
    refine wa_if_ne 342 dL_stands_329 rfl (fun c329 => ?_) (fun c329 => absurd c329 (h2))
    refine wa_iconst (x := 0) dL_stands_342 (by decide) ?_
    refine wa_icmp_ne 413 dL_stands_343 rfl (fun c343 => absurd rfl c343) (fun c343 => ?_)
    refine wa_iload dL_stands_346 rfl ?_
    refine wa_iconst (x := 2) dL_stands_348 (by decide) ?_
    refine wa_icmp_ne 356 dL_stands_349 rfl (fun c349 => ?_) (fun c349 => absurd c349 (by decide))
    refine wa_iconst (x := 0) dL_stands_356 (by decide) ?_
    refine wa_aload_n dL_stands_357 rfl ?_
    refine wa_iload_n dL_stands_358 rfl ?_
    refine wa_bipush (x := 7) dL_stands_359 (by decide) ?_
    refine c_VI (As := [.int (nI r), .int 7]) dL_stands_361 (vr_room_0_7 hV.1 hV.2.1 hV.j.1 (by omega) hr) lk_L_177 rfl (isO_VR _ _ _) rfl (ltS hV.1) ?_
    refine wa_if_le 377 dL_stands_364 rfl (fun c364 => ?_) (fun c364 => absurd (Int32.not_lt.mp h7) c364)
    refine wa_iconst (x := 0) dL_stands_377 (by decide) ?_
    refine wa_icmp_ne 413 dL_stands_378 rfl (fun c378 => absurd rfl c378) (fun c378 => ?_)
    refine wa_iload dL_stands_381 rfl ?_
    refine wa_iconst (x := 5) dL_stands_383 (by decide) ?_
    refine wa_icmp_ne 397 dL_stands_384 rfl (fun c384 => ?_) (fun c384 => absurd c384 (by decide))
    refine wa_iload dL_stands_397 rfl ?_
    refine wa_iconst (x := 4) dL_stands_399 (by decide) ?_
    refine wa_icmp_ne 415 dL_stands_400 rfl (fun c400 => ?_) (fun c400 => absurd c400 (by decide))
    exact hQ
theorem st_E_5 {Q : ab_Q} {n c r : Nat} {S : SS} {g : Nat → Int32} {e5 : Option Value} (F : FLW) (hV : VS n S g c) (hT : (g 1).toInt ≤ 100000) (hr : r < rn g) (hw : wnt g r = of g r 1) (h7 : ¬ 0 < of g r 7) (ht : of g r 0 < tgt g r) (hQ : WA RL cL_stands 6 [] (ab_rm 4 0 0) Q 0 0 415 [some (.ref 0), some (.int (nI r)), (some (.int (tgt g r))), (some (.int (tgt g r))), (some (.int 5)), e5] [] n (Hp S)) : WA RL cL_stands 6 [] (ab_rm 4 0 0) Q 0 0 279 [some (.ref 0), some (.int (nI r)), (some (.int (tgt g r))), (some (.int (tgt g r))), (some (.int 5)), e5] [] n (Hp S) := by
  have h6 := hV.g0.2
  by_cases h2 : of g r 2 = 0
  · refine wa_iload dL_stands_279 rfl ?_
    refine wa_iconst (x := 2) dL_stands_281 (by decide) ?_
    refine wa_icmp_ge 289 dL_stands_282 rfl (fun c282 => ?_) (fun c282 => absurd (by decide) c282)
    refine wa_iconst (x := 0) dL_stands_289 (by decide) ?_
    refine wa_aload_n dL_stands_290 rfl ?_
    refine wa_iload_n dL_stands_291 rfl ?_
    refine c_VI (As := [.int (nI r)]) dL_stands_292 (vr_wanted_0 hV.1 hV.2.1 hV.j.1 (by omega) hr) lk_L_202 rfl (isO_VR _ _ _) rfl (ltS hV.1) ?_
    refine wa_aload_n dL_stands_295 rfl ?_
    refine wa_iload_n dL_stands_296 rfl ?_
    refine wa_iconst (x := 1) dL_stands_297 (by decide) ?_
    refine c_VI (As := [.int (nI r), .int 1]) dL_stands_298 (vr_room_0_1 hV.1 hV.2.1 hV.j.1 (by omega) hr) lk_L_177 rfl (isO_VR _ _ _) rfl (ltS hV.1) ?_
    refine wa_icmp_eq 308 dL_stands_301 rfl (fun c301 => ?_) (fun c301 => absurd (hw) c301)
    refine wa_iconst (x := 0) dL_stands_308 (by decide) ?_
    refine wa_icmp_ne 413 dL_stands_309 rfl (fun c309 => absurd rfl c309) (fun c309 => ?_)
    refine wa_iload dL_stands_312 rfl ?_
    refine wa_iconst (x := 1) dL_stands_314 (by decide) ?_
    refine wa_icmp_ne 322 dL_stands_315 rfl (fun c315 => ?_) (fun c315 => absurd c315 (by decide))
    refine wa_iconst (x := 0) dL_stands_322 (by decide) ?_
    refine wa_aload_n dL_stands_323 rfl ?_
    refine wa_iload_n dL_stands_324 rfl ?_
    refine wa_iconst (x := 2) dL_stands_325 (by decide) ?_
    refine c_VI (As := [.int (nI r), .int 2]) dL_stands_326 (vr_room_0_2 hV.1 hV.2.1 hV.j.1 (by omega) hr) lk_L_177 rfl (isO_VR _ _ _) rfl (ltS hV.1) ?_
    refine wa_if_ne 342 dL_stands_329 rfl (fun c329 => absurd h2 c329) (fun c329 => ?_)
    refine wa_iload dL_stands_332 rfl ?_
    refine wa_iconst (x := 2) dL_stands_334 (by decide) ?_
    refine wa_icmp_ge 342 dL_stands_335 rfl (fun c335 => ?_) (fun c335 => absurd (by decide) c335)
    refine wa_iconst (x := 0) dL_stands_342 (by decide) ?_
    refine wa_icmp_ne 413 dL_stands_343 rfl (fun c343 => absurd rfl c343) (fun c343 => ?_)
    refine wa_iload dL_stands_346 rfl ?_
    refine wa_iconst (x := 2) dL_stands_348 (by decide) ?_
    refine wa_icmp_ne 356 dL_stands_349 rfl (fun c349 => ?_) (fun c349 => absurd c349 (by decide))
    refine wa_iconst (x := 0) dL_stands_356 (by decide) ?_
    refine wa_aload_n dL_stands_357 rfl ?_
    refine wa_iload_n dL_stands_358 rfl ?_
    refine wa_bipush (x := 7) dL_stands_359 (by decide) ?_
    refine c_VI (As := [.int (nI r), .int 7]) dL_stands_361 (vr_room_0_7 hV.1 hV.2.1 hV.j.1 (by omega) hr) lk_L_177 rfl (isO_VR _ _ _) rfl (ltS hV.1) ?_
    refine wa_if_le 377 dL_stands_364 rfl (fun c364 => ?_) (fun c364 => absurd (Int32.not_lt.mp h7) c364)
    refine wa_iconst (x := 0) dL_stands_377 (by decide) ?_
    refine wa_icmp_ne 413 dL_stands_378 rfl (fun c378 => absurd rfl c378) (fun c378 => ?_)
    refine wa_iload dL_stands_381 rfl ?_
    refine wa_iconst (x := 5) dL_stands_383 (by decide) ?_
    refine wa_icmp_ne 397 dL_stands_384 rfl (fun c384 => absurd rfl c384) (fun c384 => ?_)
    refine wa_iload_n dL_stands_387 rfl ?_
    refine wa_aload_n dL_stands_388 rfl ?_
    refine wa_iload_n dL_stands_389 rfl ?_
    refine wa_iconst (x := 0) dL_stands_390 (by decide) ?_
    refine c_VI (As := [.int (nI r), .int 0]) dL_stands_391 (vr_room_0_0 hV.1 hV.2.1 hV.j.1 (by omega) hr) lk_L_177 rfl (isO_VR _ _ _) rfl (ltS hV.1) ?_
    refine wa_icmp_le 413 dL_stands_394 rfl (fun c394 => absurd ht (Int32.not_lt.mpr c394)) (fun c394 => ?_)
    refine wa_iload dL_stands_397 rfl ?_
    refine wa_iconst (x := 4) dL_stands_399 (by decide) ?_
    refine wa_icmp_ne 415 dL_stands_400 rfl (fun c400 => ?_) (fun c400 => absurd c400 (by decide))
    exact hQ
  · refine wa_iload dL_stands_279 rfl ?_
    refine wa_iconst (x := 2) dL_stands_281 (by decide) ?_
    refine wa_icmp_ge 289 dL_stands_282 rfl (fun c282 => ?_) (fun c282 => absurd (by decide) c282)
    refine wa_iconst (x := 0) dL_stands_289 (by decide) ?_
    refine wa_aload_n dL_stands_290 rfl ?_
    refine wa_iload_n dL_stands_291 rfl ?_
    refine c_VI (As := [.int (nI r)]) dL_stands_292 (vr_wanted_0 hV.1 hV.2.1 hV.j.1 (by omega) hr) lk_L_202 rfl (isO_VR _ _ _) rfl (ltS hV.1) ?_
    refine wa_aload_n dL_stands_295 rfl ?_
    refine wa_iload_n dL_stands_296 rfl ?_
    refine wa_iconst (x := 1) dL_stands_297 (by decide) ?_
    refine c_VI (As := [.int (nI r), .int 1]) dL_stands_298 (vr_room_0_1 hV.1 hV.2.1 hV.j.1 (by omega) hr) lk_L_177 rfl (isO_VR _ _ _) rfl (ltS hV.1) ?_
    refine wa_icmp_eq 308 dL_stands_301 rfl (fun c301 => ?_) (fun c301 => absurd (hw) c301)
    refine wa_iconst (x := 0) dL_stands_308 (by decide) ?_
    refine wa_icmp_ne 413 dL_stands_309 rfl (fun c309 => absurd rfl c309) (fun c309 => ?_)
    refine wa_iload dL_stands_312 rfl ?_
    refine wa_iconst (x := 1) dL_stands_314 (by decide) ?_
    refine wa_icmp_ne 322 dL_stands_315 rfl (fun c315 => ?_) (fun c315 => absurd c315 (by decide))
    refine wa_iconst (x := 0) dL_stands_322 (by decide) ?_
    refine wa_aload_n dL_stands_323 rfl ?_
    refine wa_iload_n dL_stands_324 rfl ?_
    refine wa_iconst (x := 2) dL_stands_325 (by decide) ?_
    refine c_VI (As := [.int (nI r), .int 2]) dL_stands_326 (vr_room_0_2 hV.1 hV.2.1 hV.j.1 (by omega) hr) lk_L_177 rfl (isO_VR _ _ _) rfl (ltS hV.1) ?_
    refine wa_if_ne 342 dL_stands_329 rfl (fun c329 => ?_) (fun c329 => absurd c329 (h2))
    refine wa_iconst (x := 0) dL_stands_342 (by decide) ?_
    refine wa_icmp_ne 413 dL_stands_343 rfl (fun c343 => absurd rfl c343) (fun c343 => ?_)
    refine wa_iload dL_stands_346 rfl ?_
    refine wa_iconst (x := 2) dL_stands_348 (by decide) ?_
    refine wa_icmp_ne 356 dL_stands_349 rfl (fun c349 => ?_) (fun c349 => absurd c349 (by decide))
    refine wa_iconst (x := 0) dL_stands_356 (by decide) ?_
    refine wa_aload_n dL_stands_357 rfl ?_
    refine wa_iload_n dL_stands_358 rfl ?_
    refine wa_bipush (x := 7) dL_stands_359 (by decide) ?_
    refine c_VI (As := [.int (nI r), .int 7]) dL_stands_361 (vr_room_0_7 hV.1 hV.2.1 hV.j.1 (by omega) hr) lk_L_177 rfl (isO_VR _ _ _) rfl (ltS hV.1) ?_
    refine wa_if_le 377 dL_stands_364 rfl (fun c364 => ?_) (fun c364 => absurd (Int32.not_lt.mp h7) c364)
    refine wa_iconst (x := 0) dL_stands_377 (by decide) ?_
    refine wa_icmp_ne 413 dL_stands_378 rfl (fun c378 => absurd rfl c378) (fun c378 => ?_)
    refine wa_iload dL_stands_381 rfl ?_
    refine wa_iconst (x := 5) dL_stands_383 (by decide) ?_
    refine wa_icmp_ne 397 dL_stands_384 rfl (fun c384 => absurd rfl c384) (fun c384 => ?_)
    refine wa_iload_n dL_stands_387 rfl ?_
    refine wa_aload_n dL_stands_388 rfl ?_
    refine wa_iload_n dL_stands_389 rfl ?_
    refine wa_iconst (x := 0) dL_stands_390 (by decide) ?_
    refine c_VI (As := [.int (nI r), .int 0]) dL_stands_391 (vr_room_0_0 hV.1 hV.2.1 hV.j.1 (by omega) hr) lk_L_177 rfl (isO_VR _ _ _) rfl (ltS hV.1) ?_
    refine wa_icmp_le 413 dL_stands_394 rfl (fun c394 => absurd ht (Int32.not_lt.mpr c394)) (fun c394 => ?_)
    refine wa_iload dL_stands_397 rfl ?_
    refine wa_iconst (x := 4) dL_stands_399 (by decide) ?_
    refine wa_icmp_ne 415 dL_stands_400 rfl (fun c400 => ?_) (fun c400 => absurd c400 (by decide))
    exact hQ
theorem st_E_4 {Q : ab_Q} {n c r : Nat} {S : SS} {g : Nat → Int32} {e5 : Option Value} (F : FLW) (hV : VS n S g c) (hT : (g 1).toInt ≤ 100000) (hr : r < rn g) (hw : wnt g r = of g r 1) (h7 : ¬ 0 < of g r 7) (ht : ¬ of g r 0 < tgt g r) (hQ : WA RL cL_stands 6 [] (ab_rm 4 0 0) Q 0 0 415 [some (.ref 0), some (.int (nI r)), (some (.int (tgt g r))), (some (.int (tgt g r))), (some (.int 4)), e5] [] n (Hp S)) : WA RL cL_stands 6 [] (ab_rm 4 0 0) Q 0 0 279 [some (.ref 0), some (.int (nI r)), (some (.int (tgt g r))), (some (.int (tgt g r))), (some (.int 4)), e5] [] n (Hp S) := by
  have h6 := hV.g0.2
  by_cases h2 : of g r 2 = 0
  · refine wa_iload dL_stands_279 rfl ?_
    refine wa_iconst (x := 2) dL_stands_281 (by decide) ?_
    refine wa_icmp_ge 289 dL_stands_282 rfl (fun c282 => ?_) (fun c282 => absurd (by decide) c282)
    refine wa_iconst (x := 0) dL_stands_289 (by decide) ?_
    refine wa_aload_n dL_stands_290 rfl ?_
    refine wa_iload_n dL_stands_291 rfl ?_
    refine c_VI (As := [.int (nI r)]) dL_stands_292 (vr_wanted_0 hV.1 hV.2.1 hV.j.1 (by omega) hr) lk_L_202 rfl (isO_VR _ _ _) rfl (ltS hV.1) ?_
    refine wa_aload_n dL_stands_295 rfl ?_
    refine wa_iload_n dL_stands_296 rfl ?_
    refine wa_iconst (x := 1) dL_stands_297 (by decide) ?_
    refine c_VI (As := [.int (nI r), .int 1]) dL_stands_298 (vr_room_0_1 hV.1 hV.2.1 hV.j.1 (by omega) hr) lk_L_177 rfl (isO_VR _ _ _) rfl (ltS hV.1) ?_
    refine wa_icmp_eq 308 dL_stands_301 rfl (fun c301 => ?_) (fun c301 => absurd (hw) c301)
    refine wa_iconst (x := 0) dL_stands_308 (by decide) ?_
    refine wa_icmp_ne 413 dL_stands_309 rfl (fun c309 => absurd rfl c309) (fun c309 => ?_)
    refine wa_iload dL_stands_312 rfl ?_
    refine wa_iconst (x := 1) dL_stands_314 (by decide) ?_
    refine wa_icmp_ne 322 dL_stands_315 rfl (fun c315 => ?_) (fun c315 => absurd c315 (by decide))
    refine wa_iconst (x := 0) dL_stands_322 (by decide) ?_
    refine wa_aload_n dL_stands_323 rfl ?_
    refine wa_iload_n dL_stands_324 rfl ?_
    refine wa_iconst (x := 2) dL_stands_325 (by decide) ?_
    refine c_VI (As := [.int (nI r), .int 2]) dL_stands_326 (vr_room_0_2 hV.1 hV.2.1 hV.j.1 (by omega) hr) lk_L_177 rfl (isO_VR _ _ _) rfl (ltS hV.1) ?_
    refine wa_if_ne 342 dL_stands_329 rfl (fun c329 => absurd h2 c329) (fun c329 => ?_)
    refine wa_iload dL_stands_332 rfl ?_
    refine wa_iconst (x := 2) dL_stands_334 (by decide) ?_
    refine wa_icmp_ge 342 dL_stands_335 rfl (fun c335 => ?_) (fun c335 => absurd (by decide) c335)
    refine wa_iconst (x := 0) dL_stands_342 (by decide) ?_
    refine wa_icmp_ne 413 dL_stands_343 rfl (fun c343 => absurd rfl c343) (fun c343 => ?_)
    refine wa_iload dL_stands_346 rfl ?_
    refine wa_iconst (x := 2) dL_stands_348 (by decide) ?_
    refine wa_icmp_ne 356 dL_stands_349 rfl (fun c349 => ?_) (fun c349 => absurd c349 (by decide))
    refine wa_iconst (x := 0) dL_stands_356 (by decide) ?_
    refine wa_aload_n dL_stands_357 rfl ?_
    refine wa_iload_n dL_stands_358 rfl ?_
    refine wa_bipush (x := 7) dL_stands_359 (by decide) ?_
    refine c_VI (As := [.int (nI r), .int 7]) dL_stands_361 (vr_room_0_7 hV.1 hV.2.1 hV.j.1 (by omega) hr) lk_L_177 rfl (isO_VR _ _ _) rfl (ltS hV.1) ?_
    refine wa_if_le 377 dL_stands_364 rfl (fun c364 => ?_) (fun c364 => absurd (Int32.not_lt.mp h7) c364)
    refine wa_iconst (x := 0) dL_stands_377 (by decide) ?_
    refine wa_icmp_ne 413 dL_stands_378 rfl (fun c378 => absurd rfl c378) (fun c378 => ?_)
    refine wa_iload dL_stands_381 rfl ?_
    refine wa_iconst (x := 5) dL_stands_383 (by decide) ?_
    refine wa_icmp_ne 397 dL_stands_384 rfl (fun c384 => ?_) (fun c384 => absurd c384 (by decide))
    refine wa_iload dL_stands_397 rfl ?_
    refine wa_iconst (x := 4) dL_stands_399 (by decide) ?_
    refine wa_icmp_ne 415 dL_stands_400 rfl (fun c400 => absurd rfl c400) (fun c400 => ?_)
    refine wa_iload_n dL_stands_403 rfl ?_
    refine wa_aload_n dL_stands_404 rfl ?_
    refine wa_iload_n dL_stands_405 rfl ?_
    refine wa_iconst (x := 0) dL_stands_406 (by decide) ?_
    refine c_VI (As := [.int (nI r), .int 0]) dL_stands_407 (vr_room_0_0 hV.1 hV.2.1 hV.j.1 (by omega) hr) lk_L_177 rfl (isO_VR _ _ _) rfl (ltS hV.1) ?_
    refine wa_icmp_le 415 dL_stands_410 rfl (fun c410 => ?_) (fun c410 => absurd (Int32.not_lt.mp ht) c410)
    exact hQ
  · refine wa_iload dL_stands_279 rfl ?_
    refine wa_iconst (x := 2) dL_stands_281 (by decide) ?_
    refine wa_icmp_ge 289 dL_stands_282 rfl (fun c282 => ?_) (fun c282 => absurd (by decide) c282)
    refine wa_iconst (x := 0) dL_stands_289 (by decide) ?_
    refine wa_aload_n dL_stands_290 rfl ?_
    refine wa_iload_n dL_stands_291 rfl ?_
    refine c_VI (As := [.int (nI r)]) dL_stands_292 (vr_wanted_0 hV.1 hV.2.1 hV.j.1 (by omega) hr) lk_L_202 rfl (isO_VR _ _ _) rfl (ltS hV.1) ?_
    refine wa_aload_n dL_stands_295 rfl ?_
    refine wa_iload_n dL_stands_296 rfl ?_
    refine wa_iconst (x := 1) dL_stands_297 (by decide) ?_
    refine c_VI (As := [.int (nI r), .int 1]) dL_stands_298 (vr_room_0_1 hV.1 hV.2.1 hV.j.1 (by omega) hr) lk_L_177 rfl (isO_VR _ _ _) rfl (ltS hV.1) ?_
    refine wa_icmp_eq 308 dL_stands_301 rfl (fun c301 => ?_) (fun c301 => absurd (hw) c301)
    refine wa_iconst (x := 0) dL_stands_308 (by decide) ?_
    refine wa_icmp_ne 413 dL_stands_309 rfl (fun c309 => absurd rfl c309) (fun c309 => ?_)
    refine wa_iload dL_stands_312 rfl ?_
    refine wa_iconst (x := 1) dL_stands_314 (by decide) ?_
    refine wa_icmp_ne 322 dL_stands_315 rfl (fun c315 => ?_) (fun c315 => absurd c315 (by decide))
    refine wa_iconst (x := 0) dL_stands_322 (by decide) ?_
    refine wa_aload_n dL_stands_323 rfl ?_
    refine wa_iload_n dL_stands_324 rfl ?_
    refine wa_iconst (x := 2) dL_stands_325 (by decide) ?_
    refine c_VI (As := [.int (nI r), .int 2]) dL_stands_326 (vr_room_0_2 hV.1 hV.2.1 hV.j.1 (by omega) hr) lk_L_177 rfl (isO_VR _ _ _) rfl (ltS hV.1) ?_
    refine wa_if_ne 342 dL_stands_329 rfl (fun c329 => ?_) (fun c329 => absurd c329 (h2))
    refine wa_iconst (x := 0) dL_stands_342 (by decide) ?_
    refine wa_icmp_ne 413 dL_stands_343 rfl (fun c343 => absurd rfl c343) (fun c343 => ?_)
    refine wa_iload dL_stands_346 rfl ?_
    refine wa_iconst (x := 2) dL_stands_348 (by decide) ?_
    refine wa_icmp_ne 356 dL_stands_349 rfl (fun c349 => ?_) (fun c349 => absurd c349 (by decide))
    refine wa_iconst (x := 0) dL_stands_356 (by decide) ?_
    refine wa_aload_n dL_stands_357 rfl ?_
    refine wa_iload_n dL_stands_358 rfl ?_
    refine wa_bipush (x := 7) dL_stands_359 (by decide) ?_
    refine c_VI (As := [.int (nI r), .int 7]) dL_stands_361 (vr_room_0_7 hV.1 hV.2.1 hV.j.1 (by omega) hr) lk_L_177 rfl (isO_VR _ _ _) rfl (ltS hV.1) ?_
    refine wa_if_le 377 dL_stands_364 rfl (fun c364 => ?_) (fun c364 => absurd (Int32.not_lt.mp h7) c364)
    refine wa_iconst (x := 0) dL_stands_377 (by decide) ?_
    refine wa_icmp_ne 413 dL_stands_378 rfl (fun c378 => absurd rfl c378) (fun c378 => ?_)
    refine wa_iload dL_stands_381 rfl ?_
    refine wa_iconst (x := 5) dL_stands_383 (by decide) ?_
    refine wa_icmp_ne 397 dL_stands_384 rfl (fun c384 => ?_) (fun c384 => absurd c384 (by decide))
    refine wa_iload dL_stands_397 rfl ?_
    refine wa_iconst (x := 4) dL_stands_399 (by decide) ?_
    refine wa_icmp_ne 415 dL_stands_400 rfl (fun c400 => absurd rfl c400) (fun c400 => ?_)
    refine wa_iload_n dL_stands_403 rfl ?_
    refine wa_aload_n dL_stands_404 rfl ?_
    refine wa_iload_n dL_stands_405 rfl ?_
    refine wa_iconst (x := 0) dL_stands_406 (by decide) ?_
    refine c_VI (As := [.int (nI r), .int 0]) dL_stands_407 (vr_room_0_0 hV.1 hV.2.1 hV.j.1 (by omega) hr) lk_L_177 rfl (isO_VR _ _ _) rfl (ltS hV.1) ?_
    refine wa_icmp_le 415 dL_stands_410 rfl (fun c410 => ?_) (fun c410 => absurd (Int32.not_lt.mp ht) c410)
    exact hQ
theorem st_E {Q : ab_Q} {n c r : Nat} {S : SS} {g : Nat → Int32} {e4 e5 : Option Value} (F : FLW) (hV : VS n S g c) (hT : (g 1).toInt ≤ 100000) (hr : r < rn g) (hQ : ∀ W, WA RL cL_stands 6 [] (ab_rm 4 0 0) Q 0 0 415 [some (.ref 0), some (.int (nI r)), (some (.int (tgt g r))), (some (.int (tgt g r))), (some (.int W)), e5] [] n (Hp S)) : WA RL cL_stands 6 [] (ab_rm 4 0 0) Q 0 0 272 [some (.ref 0), some (.int (nI r)), (some (.int (tgt g r))), (some (.int (tgt g r))), e4, e5] [] n (Hp S) := by
  have hR := hV.j.1.RG hr
  by_cases c1 : of g r 1 = wnt g r
  · have hw := c1.symm
    by_cases c7 : 0 < of g r 7
    · exact st_E0 F hV hT hr (W := 2) (by rw [if_neg (fun z => z c1), if_pos c7]) (st_E_2 F hV hT hr hw c7 (hQ _))
    · by_cases cb : i_abs (mis g r) ≤ g 7
      · exact st_E0 F hV hT hr (W := 3) (by rw [if_neg (fun z => z c1), if_neg c7, if_pos cb]) (st_E_3 F hV hT hr hw c7 (hQ _))
      · by_cases ct : of g r 0 < tgt g r
        · exact st_E0 F hV hT hr (W := 5) (by rw [if_neg (fun z => z c1), if_neg c7, if_neg cb, if_pos ct]) (st_E_5 F hV hT hr hw c7 ct (hQ _))
        · exact st_E0 F hV hT hr (W := 4) (by rw [if_neg (fun z => z c1), if_neg c7, if_neg cb, if_neg ct]) (st_E_4 F hV hT hr hw c7 ct (hQ _))
  · have hw : ¬ wnt g r = of g r 1 := fun z => c1 z.symm
    by_cases c2 : 0 < of g r 2
    · exact st_E0 F hV hT hr (W := 0) (by rw [if_pos c1, if_pos c2]) (st_E_0 F hV hT hr hw (fun z => by rw [z] at c2; exact absurd c2 (by decide)) (hQ _))
    · have h2 : of g r 2 = 0 := by
        have a := hR.2.1
        refine Int32.toInt_inj.mp ?_
        rw [Int32.lt_iff_toInt_lt, Int32.toInt_zero] at c2
        rw [Int32.toInt_zero]
        omega
      exact st_E0 F hV hT hr (W := 1) (by rw [if_pos c1, if_neg c2]) (st_E_1 F hV hT hr hw h2 (hQ _))
theorem st_F {Q : ab_Q} {n c r : Nat} {S : SS} {g : Nat → Int32} {e5 : Option Value} (F : FLW) (hV : VS n S g c) (hT : (g 1).toInt ≤ 100000) (hr : r < rn g) {W : Int32} (hQ : WA RL cL_stands 6 [] (ab_rm 4 0 0) Q 0 0 456 [some (.ref 0), some (.int (nI r)), (some (.int (tgt g r))), (some (.int (tgt g r))), (some (.int W)), e5] [] n (Hp S)) : WA RL cL_stands 6 [] (ab_rm 4 0 0) Q 0 0 415 [some (.ref 0), some (.int (nI r)), (some (.int (tgt g r))), (some (.int (tgt g r))), (some (.int W)), e5] [] n (Hp S) := by
  have h6 := hV.g0.2
  have t0 := hV.g1
  refine wa_aload_n dL_stands_415 rfl ?_
  refine wa_iload_n dL_stands_416 rfl ?_
  refine c_VA (As := [.int (nI r)]) dL_stands_417 (vr_warmth_0 F hV.1 hV.2.1 hV.j.1 (by omega) hr) lk_L_211 rfl (isO_VR _ _ _) rfl (ltS hV.1) ?_
  refine wa_aload_n dL_stands_420 rfl ?_
  refine wa_iconst (x := 1) dL_stands_421 (by decide) ?_
  refine c_VI (As := [.int 1]) dL_stands_422 (vr_property_0_1 hV.1 hV.2.1 hV.j.1) lk_L_115 rfl (isO_VR _ _ _) rfl (ltS hV.1) ?_
  by_cases c1 : g 1 = 0
  · refine wa_if_ne 432 dL_stands_425 rfl (fun z => absurd c1 z) (fun _ => ?_)
    refine wa_fconst0 dL_stands_428 ?_
    refine wa_goto 450 dL_stands_429 rfl ?_
    refine wa_fcmp dL_stands_450 ?_
    rw [show wmth g r = FP.fconst0 from if_pos c1, F.2]
    refine wa_if_eq 456 dL_stands_451 rfl (fun c451 => ?_) (fun c451 => absurd (show Op.cmpValue (some .eq) .l = 0 from rfl) c451)
    exact hQ
  · refine wa_if_ne 432 dL_stands_425 rfl (fun _ => ?_) (fun z => absurd z c1)
    have hne : ¬ (g 1).toInt = 0 := fun z => c1 (Int32.toInt_inj.mp (z.trans Int32.toInt_zero.symm))
    obtain ⟨-, -, f3, f4⟩ := F.1 (of g r 10) (g 1) (by omega) (by omega)
    refine wa_aload_n dL_stands_432 rfl ?_
    refine wa_iload_n dL_stands_433 rfl ?_
    refine wa_bipush (x := 10) dL_stands_434 (by decide) ?_
    refine c_VI (As := [.int (nI r), .int 10]) dL_stands_436 (vr_room_0_10 hV.1 hV.2.1 hV.j.1 (by omega) hr) lk_L_177 rfl (isO_VR _ _ _) rfl (ltS hV.1) ?_
    refine wa_i2f dL_stands_439 ?_
    refine wa_bipush (x := 100) dL_stands_440 (by decide) ?_
    refine wa_aload_n dL_stands_442 rfl ?_
    refine wa_iconst (x := 1) dL_stands_443 (by decide) ?_
    refine c_VI (As := [.int 1]) dL_stands_444 (vr_property_0_1 hV.1 hV.2.1 hV.j.1) lk_L_115 rfl (isO_VR _ _ _) rfl (ltS hV.1) ?_
    refine wa_imul dL_stands_447 ?_
    refine wa_i2f dL_stands_448 ?_
    refine wa_fdiv dL_stands_449 f3 ?_
    refine wa_fcmp dL_stands_450 ?_
    rw [show wmth g r = FP.fdiv (FP.i2f (of g r 10)) (FP.i2f (100 * g 1)) from if_neg c1, f4]
    refine wa_if_eq 456 dL_stands_451 rfl (fun c451 => ?_) (fun c451 => absurd (show Op.cmpValue (some .eq) .l = 0 from rfl) c451)
    exact hQ
theorem st_G {Q : ab_Q} {n c r : Nat} {S : SS} {g : Nat → Int32} {e5 : Option Value} (F : FLW) (hV : VS n S g c) (hT : (g 1).toInt ≤ 100000) (hr : r < rn g) {W : Int32} (hQ : WA RL cL_stands 6 [] (ab_rm 4 0 0) Q 0 0 2 [some (.ref 0), some (.int (nI (r + 1))), (some (.int (tgt g r))), (some (.int (tgt g r))), (some (.int W)), (some (.int (i_fmod (g 10 + nI r - g 1 - 1) 336 + 1)))] [] n (Hp S)) : WA RL cL_stands 6 [] (ab_rm 4 0 0) Q 0 0 456 [some (.ref 0), some (.int (nI r)), (some (.int (tgt g r))), (some (.int (tgt g r))), (some (.int W)), e5] [] n (Hp S) := by
  have h6 := hV.g0.2
  have t0 := hV.g1
  have hX := hV.j.1.2.1
  have h10 : 0 ≤ (g 10).toInt ∧ (g 10).toInt ≤ 335 := hX.2.2.2.2.2.2.2
  have er : (nI r).toInt = (r : Int) := nI_toInt (by omega)
  have o1 : (1 : Int32).toInt = 1 := rfl
  have b1 : (g 10 + nI r).toInt = (g 10).toInt + r := by rw [i_addR (by omega) (by omega), er]
  have b2 : (g 10 + nI r - g 1).toInt = (g 10).toInt + r - (g 1).toInt := by rw [i_subR (by omega) (by omega), b1]
  have b3 : (g 10 + nI r - g 1 - 1).toInt = (g 10).toInt + r - (g 1).toInt - 1 := by rw [i_subR (by omega) (by omega), b2, o1]
  have b4 : (i_fmod (g 10 + nI r - g 1 - 1) 336).toInt = ((g 10).toInt + r - (g 1).toInt - 1) % 336 := by rw [fmod_336 (by omega) (by omega), b3]
  have b5 : (i_fmod (g 10 + nI r - g 1 - 1) 336 + 1).toInt = ((g 10).toInt + r - (g 1).toInt - 1) % 336 + 1 := by rw [i_addR (by omega) (by omega), b4, o1]
  have b6 : (g 1 + (i_fmod (g 10 + nI r - g 1 - 1) 336 + 1)).toInt = (g 1).toInt + (((g 10).toInt + r - (g 1).toInt - 1) % 336 + 1) := by rw [i_addR (by omega) (by omega), b5]
  have b7 : (g 1 + (i_fmod (g 10 + nI r - g 1 - 1) 336 + 1) - nI r).toInt = (g 1).toInt + (((g 10).toInt + r - (g 1).toInt - 1) % 336 + 1) - r := by rw [i_subR (by omega) (by omega), b6, er]
  refine wa_aload_n dL_stands_456 rfl ?_
  refine wa_iload_n dL_stands_457 rfl ?_
  refine c_VI (As := [.int (nI r)]) dL_stands_458 (vr_exerciseIn_0 hV.1 hV.2.1 hV.j.1 (by omega) hr) lk_L_215 rfl (isO_VR _ _ _) rfl (ltS hV.1) ?_
  refine wa_istore dL_stands_461 rfl ?_
  refine wa_iload dL_stands_463 rfl ?_
  refine wa_iconst (x := 1) dL_stands_465 (by decide) ?_
  refine wa_icmp_lt 502 dL_stands_466 rfl (fun c466 => absurd c466 (fun z => by rw [Int32.lt_iff_toInt_lt, b5, o1] at z; omega)) (fun c466 => ?_)
  refine wa_iload dL_stands_469 rfl ?_
  refine wa_sipush (x := 336) dL_stands_471 (by decide) ?_
  refine wa_icmp_gt 502 dL_stands_474 rfl (fun c474 => absurd c474 (fun z => by rw [Int32.lt_iff_toInt_lt, b5, show (336 : Int32).toInt = 336 from rfl] at z; omega)) (fun c474 => ?_)
  refine wa_aload_n dL_stands_477 rfl ?_
  refine wa_iconst (x := 1) dL_stands_478 (by decide) ?_
  refine c_VI (As := [.int 1]) dL_stands_479 (vr_property_0_1 hV.1 hV.2.1 hV.j.1) lk_L_115 rfl (isO_VR _ _ _) rfl (ltS hV.1) ?_
  refine wa_iload dL_stands_482 rfl ?_
  refine wa_iadd dL_stands_484 ?_
  refine wa_iload_n dL_stands_485 rfl ?_
  refine wa_isub dL_stands_486 ?_
  refine wa_sipush (x := 336) dL_stands_487 (by decide) ?_
  refine c_SI dL_stands_490 (am_fmod2 _ _ (by decide)) lk_L_218 rfl ?_
  refine wa_aload_n dL_stands_493 rfl ?_
  refine wa_bipush (x := 11) dL_stands_494 (by decide) ?_
  refine c_VI (As := [.int 11]) dL_stands_496 (vr_property_0_11 hV.1 hV.2.1 hV.j.1) lk_L_115 rfl (isO_VR _ _ _) rfl (ltS hV.1) ?_
  refine wa_icmp_eq 504 dL_stands_499 rfl (fun c499 => ?_) (fun c499 => absurd ((by refine Int32.toInt_inj.mp ?_; rw [fmod_336 (by omega) (by omega), b7]; omega : i_fmod (g 1 + (i_fmod (g 10 + nI r - g 1 - 1) 336 + 1) - nI r) 336 = g 10)) c499)
  refine wa_iinc (y := 1) dL_stands_504 rfl (by decide) rfl ?_
  refine wa_goto 2 dL_stands_507 rfl ?_
  rw [show nI r + 1 = nI (r + 1) from nI_addS r 1]
  exact hQ
theorem st_rooms {Q : ab_Q} {n c : Nat} {S : SS} {g : Nat → Int32} (F : FLW) (hV : VS n S g c) (hT : (g 1).toInt ≤ 100000) (hQ : ∀ e2 e3 e4 e5, WA RL cL_stands 6 [] (ab_rm 4 0 0) Q 0 0 510 [some (.ref 0), some (.int (nI (rn g))), e2, e3, e4, e5] [] n (Hp S)) : ∀ (q r : Nat), r + q = rn g → ∀ e2 e3 e4 e5, WA RL cL_stands 6 [] (ab_rm 4 0 0) Q 0 0 2 [some (.ref 0), some (.int (nI r)), e2, e3, e4, e5] [] n (Hp S) := by
  have h6 := hV.g0.2
  intro q
  induction q with
  | zero =>
    intro r hr e2 e3 e4 e5
    have e : r = rn g := by omega
    subst e
    refine wa_iload_n dL_stands_2 rfl ?_
    refine wa_aload_n dL_stands_3 rfl ?_
    refine wa_iconst (x := 0) dL_stands_4 (by decide) ?_
    refine c_VI (As := [.int 0]) dL_stands_5 (vr_property_0_0 hV.1 hV.2.1 hV.j.1) lk_L_115 rfl (isO_VR _ _ _) rfl (ltS hV.1) ?_
    rw [hV.g0.1]
    refine wa_icmp_ge 510 dL_stands_8 rfl (fun _ => ?_) (fun z => absurd (nI_leN (Nat.le_refl _) (by omega)) z)
    exact hQ _ _ _ _
  | succ q ih =>
    intro r hr e2 e3 e4 e5
    have hr2 : r < rn g := by omega
    refine wa_iload_n dL_stands_2 rfl ?_
    refine wa_aload_n dL_stands_3 rfl ?_
    refine wa_iconst (x := 0) dL_stands_4 (by decide) ?_
    refine c_VI (As := [.int 0]) dL_stands_5 (vr_property_0_0 hV.1 hV.2.1 hV.j.1) lk_L_115 rfl (isO_VR _ _ _) rfl (ltS hV.1) ?_
    rw [hV.g0.1]
    refine wa_icmp_ge 510 dL_stands_8 rfl (fun z => absurd ((nI_leI (by omega) (by omega)).mp z) (by omega)) (fun _ => ?_)
    exact st_A F hV hT hr2 (st_B F hV hT hr2 (st_C F hV hT hr2 (st_D F hV hT hr2 (st_E F hV hT hr2 (fun W => st_F F hV hT hr2 (st_G F hV hT hr2 (ih (r + 1) (by omega) _ _ _ _)))))))
theorem st_plans {Q : ab_Q} {n c : Nat} {S : SS} {g : Nat → Int32} {e2 e3 e4 e5 : Option Value} (hV : VS n S g c) (hT : (g 1).toInt ≤ 100000) (hQ : WA RL cL_stands 6 [] (ab_rm 4 0 0) Q 0 0 564 [some (.ref 0), some (.int (nI (pn g))), e2, e3, e4, e5] [] n (Hp S)) : ∀ (q k : Nat), k + q = pn g → WA RL cL_stands 6 [] (ab_rm 4 0 0) Q 0 0 512 [some (.ref 0), some (.int (nI k)), e2, e3, e4, e5] [] n (Hp S) := by
  have h20 := hV.g3.2
  have hP := hV.j.2.2
  intro q
  induction q with
  | zero =>
    intro k hk
    have e : k = pn g := by omega
    subst e
    refine wa_iload_n dL_stands_512 rfl ?_
    refine wa_aload_n dL_stands_513 rfl ?_
    refine wa_iconst (x := 4) dL_stands_514 (by decide) ?_
    refine c_VI (As := [.int 4]) dL_stands_515 (vr_property_0_4 hV.1 hV.2.1 hV.j.1) lk_L_115 rfl (isO_VR _ _ _) rfl (ltS hV.1) ?_
    rw [hV.g3.1]
    refine wa_icmp_ge 564 dL_stands_518 rfl (fun _ => ?_) (fun z => absurd (nI_leN (Nat.le_refl _) (by omega)) z)
    exact hQ
  | succ q ih =>
    intro k hk
    refine wa_iload_n dL_stands_512 rfl ?_
    refine wa_aload_n dL_stands_513 rfl ?_
    refine wa_iconst (x := 4) dL_stands_514 (by decide) ?_
    refine c_VI (As := [.int 4]) dL_stands_515 (vr_property_0_4 hV.1 hV.2.1 hV.j.1) lk_L_115 rfl (isO_VR _ _ _) rfl (ltS hV.1) ?_
    rw [hV.g3.1]
    refine wa_icmp_ge 564 dL_stands_518 rfl (fun z => absurd ((nI_leI (by omega) (by omega)).mp z) (by omega)) (fun _ => ?_)
    refine wa_aload_n dL_stands_521 rfl ?_
    refine wa_iload_n dL_stands_522 rfl ?_
    refine wa_iconst (x := 0) dL_stands_523 (by decide) ?_
    refine c_VI (As := [.int (nI (k)), .int 0]) dL_stands_524 (vr_planned_0_0 (k := k) hV.1 hV.2.1 hV.j.1 (by omega) (by omega) ⟨nI_0le (by omega), by rw [hV.g3.1]; exact (nI_ltI (by omega) (by omega)).mpr (by omega)⟩) lk_L_188 rfl (isO_VR _ _ _) rfl (ltS hV.1) ?_
    refine wa_aload_n dL_stands_527 rfl ?_
    refine wa_iconst (x := 1) dL_stands_528 (by decide) ?_
    refine c_VI (As := [.int 1]) dL_stands_529 (vr_property_0_1 hV.1 hV.2.1 hV.j.1) lk_L_115 rfl (isO_VR _ _ _) rfl (ltS hV.1) ?_
    refine wa_icmp_le 556 dL_stands_532 rfl (fun c532 => absurd (hP.1 k (by omega)) (by rw [Int32.le_iff_toInt_le] at c532; exact Int.not_lt.mpr c532)) (fun c532 => ?_)
    have tail : WA RL cL_stands 6 [] (ab_rm 4 0 0) Q 0 0 558 [some (.ref 0), some (.int (nI k)), e2, e3, e4, e5] [] n (Hp S) := by
      refine wa_iinc (y := 1) dL_stands_558 rfl (by decide) rfl ?_
      refine wa_goto 512 dL_stands_561 rfl ?_
      rw [show nI k + 1 = nI (k + 1) from nI_addS k 1]
      exact ih (k + 1) (by omega)
    refine wa_iload_n dL_stands_535 rfl ?_
    by_cases k0 : k = 0
    · refine wa_if_le 558 dL_stands_536 rfl (fun _ => ?_) (fun z => absurd (nI_leN (b := 0) (show k ≤ 0 by omega) (by decide)) z)
      exact tail
    · refine wa_if_le 558 dL_stands_536 rfl (fun z => absurd (nI_le0 (by omega) z) k0) (fun _ => ?_)
      refine wa_aload_n dL_stands_539 rfl ?_
      refine wa_iload_n dL_stands_540 rfl ?_
      refine wa_iconst (x := 0) dL_stands_541 (by decide) ?_
      refine c_VI (As := [.int (nI (k)), .int 0]) dL_stands_542 (vr_planned_0_0 (k := k) hV.1 hV.2.1 hV.j.1 (by omega) (by omega) ⟨nI_0le (by omega), by rw [hV.g3.1]; exact (nI_ltI (by omega) (by omega)).mpr (by omega)⟩) lk_L_188 rfl (isO_VR _ _ _) rfl (ltS hV.1) ?_
      refine wa_aload_n dL_stands_545 rfl ?_
      refine wa_iload_n dL_stands_546 rfl ?_
      refine wa_iconst (x := 1) dL_stands_547 (by decide) ?_
      refine wa_isub dL_stands_548 ?_
      rw [show nI k - 1 = nI (k - 1) from nI_s1b (by omega)]
      refine wa_iconst (x := 0) dL_stands_549 (by decide) ?_
      refine c_VI (As := [.int (nI (k - 1)), .int 0]) dL_stands_550 (vr_planned_0_0 (k := k - 1) hV.1 hV.2.1 hV.j.1 (by omega) (by omega) ⟨nI_0le (by omega), by rw [hV.g3.1]; exact (nI_ltI (by omega) (by omega)).mpr (by omega)⟩) lk_L_188 rfl (isO_VR _ _ _) rfl (ltS hV.1) ?_
      refine wa_icmp_ge 558 dL_stands_553 rfl (fun c553 => ?_) (fun c553 => absurd ((by rw [Int32.le_iff_toInt_le]; have q := hP.2 (k - 1) (by omega); rw [show k - 1 + 1 = k by omega] at q; exact q : g (11 + 3 * (k - 1) + 0) ≤ g (11 + 3 * k + 0))) c553)
      exact tail
theorem yl_stands {n c : Nat} {S : SS} {g : Nat → Int32} (F : FLW) (hV : VS n S g c) (hT : (g 1).toInt ≤ 100000) : AM yL_stands cL_stands 6 (some .boolean) [] 4 0 0 [.ref 0] n (Hp S) (PI 1 n S) := by
  intro has
  change WA RL cL_stands 6 [] _ _ 0 0 0 [some (.ref 0), none, none, none, none, none] [] n _
  refine wa_iconst (x := 0) dL_stands_0 (by decide) ?_
  refine wa_istore_n dL_stands_1 rfl ?_
  refine st_rooms F hV hT (fun e2 e3 e4 e5 => ?_) (rn g) 0 (Nat.zero_add _) _ _ _ _
  refine wa_iconst (x := 0) dL_stands_510 (by decide) ?_
  refine wa_istore_n dL_stands_511 rfl ?_
  refine st_plans hV hT ?_ (pn g) 0 (Nat.zero_add _)
  refine wa_aload_n dL_stands_564 rfl ?_
  refine wa_iconst (x := 2) dL_stands_565 (by decide) ?_
  refine c_VI (As := [.int 2]) dL_stands_566 (vr_property_0_2 hV.1 hV.2.1 hV.j.1) lk_L_115 rfl (isO_VR _ _ _) rfl (ltS hV.1) ?_
  refine wa_aload_n dL_stands_569 rfl ?_
  refine wa_iconst (x := 1) dL_stands_570 (by decide) ?_
  refine c_VI (As := [.int 1]) dL_stands_571 (vr_property_0_1 hV.1 hV.2.1 hV.j.1) lk_L_115 rfl (isO_VR _ _ _) rfl (ltS hV.1) ?_
  refine wa_bipush (x := 48) dL_stands_574 (by decide) ?_
  refine wa_irem dL_stands_576 (by decide) ?_
  refine wa_icmp_ne 584 dL_stands_577 rfl (fun z => absurd rfl z) (fun _ => ?_)
  refine wa_iconst (x := 1) dL_stands_580 (by decide) ?_
  refine wa_goto 585 dL_stands_581 rfl ?_
  exact wa_ireturn dL_stands_585 ⟨Nat.le_refl _, Nat.le_refl _, ⟨_, rfl, rfl⟩, rfl, rfl, rfl⟩
