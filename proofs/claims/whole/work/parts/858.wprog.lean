/-! ValveRoom: writeProgram. Written by program (wip/whole/gen/m858.py) but for the heads. -/
theorem progT_0 {P : Nat → Int32} {t : Nat} (h : P t = 0) : progT P (t + 1) = progT P t := if_pos h
theorem progT_1 {P : Nat → Int32} {t : Nat} (h : ¬ P t = 0) : progT P (t + 1) = progT P t ++ (if 0 < (progT P t).length then [44] else []) ++ decI (nI t) ++ [58] ++ decI (P t) := if_neg h
theorem progT_cnt {P : Nat → Int32} {s : Nat} : ∀ r, cnt P (s + r) = cnt P s → progT P (s + r) = progT P s
  | 0, _ => rfl
  | r + 1, h => by
    have h1 : cnt P (s + r) ≤ cnt P (s + (r + 1)) := cnt_mono P (by omega)
    have h2 : cnt P s ≤ cnt P (s + r) := cnt_mono P (by omega)
    have h3 : cnt P (s + r) = cnt P s := by omega
    by_cases h0 : P (s + r) = 0
    · exact (progT_0 h0).trans (progT_cnt r h3)
    · have h5 : cnt P (s + r + 1) = cnt P (s + r) + 1 := cnt_s1 h0
      have h6 : cnt P (s + r + 1) = cnt P s := h
      omega
theorem progT_same {P : Nat → Int32} {s t : Nat} (h : cnt P s = cnt P t) : progT P s = progT P t := by
  by_cases hst : s ≤ t
  · have := progT_cnt (P := P) (s := s) (t - s) (by rw [show s + (t - s) = t by omega]; exact h.symm)
    rw [show s + (t - s) = t by omega] at this
    exact this.symm
  · have := progT_cnt (P := P) (s := t) (s - t) (by rw [show t + (s - t) = s by omega]; exact h)
    rw [show t + (s - t) = s by omega] at this
    exact this
theorem progT_pos {P : Nat → Int32} : ∀ t, 0 < (progT P t).length ↔ 0 < cnt P t
  | 0 => by
    show 0 < ([] : List Int32).length ↔ 0 < 0
    simp
  | t + 1 => by
    by_cases h0 : P t = 0
    · rw [progT_0 h0, cnt_s0 h0]
      exact progT_pos t
    · rw [progT_1 h0, cnt_s1 h0]
      have := decI_ln (P t)
      simp only [List.length_append]
      omega
theorem lpv_wprog {Q : ab_Q} {n0 q : Nat} {S0 : SS} {g : Nat → Int32} {T : Int} {x1 : Int32} (h0 : 279 ≤ n0) (h7 : n0 + 7 ≤ ab_CB) (h : HH S0 34 g (fun _ => True)) (hg : GG T g) (hq : q < rn g) : ∀ (r i t n : Nat) (S : SS) (j : Nat) (f : Nat → Int32) (k z : Nat), i + r = cnt (pg g q) 48 → t ≤ 48 → cnt (pg g q) t = i → WB n0 S0 n S j f (progT (pg g q) t) k z → (∀ n' S' j' f' k' z', WB n0 S0 n' S' j' f' (progT (pg g q) 48) k' z' → Q (.inl (some (.int (nI (progT (pg g q) 48).length)))) k' z' n' (Hp S')) → WA RX6 cX6_writeProgram 4 [] (ab_rm 6 5 1200) Q k z 16 [some (.ref 0), some (.int x1), some (.ref (34 + 5 + 3 * q)), some (.int (nI i))] [] n (Hp S) := by
  intro r
  induction r with
  | zero =>
    intro i t n S j f k z hk ht hct hw hQ
    have hk2 : i = cnt (pg g q) 48 := by omega
    obtain ⟨hn, hn1, hk5, hz5⟩ := hw.lt h0 h7
    have h6 := hg.rn6
    have hR : isR (34 + 5 + 3 * q) := isH_house.R (by omega)
    have hP := ((h.b hw.f (Or.inr (by decide))).lvT hq).rp
    have hlen := prog_len hP.1 t ht
    have h48 := cnt_le (pg g q) 48
    refine wa_iload_n dX6_writeProgram_16 rfl ?_
    refine wa_aload_n dX6_writeProgram_17 rfl ?_
    refine g_RO hR hn 14 dX6_writeProgram_18 fl_X6_186 (by decide) (v := .int (nI (cnt (pg g q) 48))) (congrArg (fun x => some (Value.int x)) hP.2.1) ?_
    refine wa_icmp_ge 80 dX6_writeProgram_21 rfl (fun c21 => ?_) (fun c21 => absurd (by rw [hk2]; exact Int32.le_refl _) c21)
    refine wa_aload_n dX6_writeProgram_80 rfl ?_
    refine g_VR hn 3 dX6_writeProgram_81 fl_X6_19 (by decide) rfl ?_
    refine c_VI dX6_writeProgram_84 (sb_length hn hw.1.2.2.1) lk_X6_303 rfl (isO_SB _ _ _) rfl (ltS hn) ?_
    exact wa_ireturn dX6_writeProgram_87 (by
      have e : progT (pg g q) t = progT (pg g q) 48 := progT_same (by omega)
      rw [e] at hw ⊢
      exact hQ n S j f k z hw)
  | succ r ih =>
    intro i t n S j f k z hk ht hct hw hQ
    have hi : i < cnt (pg g q) 48 := by omega
    obtain ⟨hn, hn1, hk5, hz5⟩ := hw.lt h0 h7
    have h6 := hg.rn6
    have hR : isR (34 + 5 + 3 * q) := isH_house.R (by omega)
    have hP := ((h.b hw.f (Or.inr (by decide))).lvT hq).rp
    have hlen := prog_len hP.1 t ht
    have h48 := cnt_le (pg g q) 48
    obtain ⟨s, hs1, hs2, hs3⟩ := cnt_nth (pg g q) (i := i) 48 hi
    have eT : progT (pg g q) t = progT (pg g q) s := progT_same (by omega)
    rw [eT] at hw
    have hlen2 := prog_len hP.1 s (by omega)
    have hv := hP.1.2 s
    obtain ⟨ev, -⟩ := nI_of_nn (x := (pg g q) s) (by rcases hv with z | z; exact absurd z hs2; omega)
    have hv2 : 50 ≤ ((pg g q) s).toInt ∧ ((pg g q) s).toInt ≤ 300 := by rcases hv with z | z; exact absurd z hs2; exact z
    have dl1 := decI_len2 (v := nI s) (m := 1) (K := 100) (by rw [nI_toInt (by omega)]; omega) (by rw [nI_toInt (by omega)]; omega) (by decide)
    have dl2 := decI_len2 (v := (pg g q) s) (m := 2) (K := 1000) (by omega) (by omega) (by decide)
    refine wa_iload_n dX6_writeProgram_16 rfl ?_
    refine wa_aload_n dX6_writeProgram_17 rfl ?_
    refine g_RO hR hn 14 dX6_writeProgram_18 fl_X6_186 (by decide) (v := .int (nI (cnt (pg g q) 48))) (congrArg (fun x => some (Value.int x)) hP.2.1) ?_
    refine wa_icmp_ge 80 dX6_writeProgram_21 rfl (fun c21 => absurd c21 (nI_ge (by omega) (by omega))) (fun c21 => ?_)
    refine wa_iload_n dX6_writeProgram_24 rfl ?_
    have hps := progT_pos (P := (pg g q)) s
    by_cases hi0 : 0 < i
    · have esp : (if 0 < (progT (pg g q) s).length then [44] else [] : List Int32) = [44] := if_pos (hps.mpr (by omega))
      refine wa_if_le 38 dX6_writeProgram_25 rfl (fun c25 => absurd c25 (Int32.not_le.mpr (show nI 0 < nI i from nI_lt hi0 (by omega)))) (fun c25 => ?_)
      refine wa_aload_n dX6_writeProgram_28 rfl ?_
      refine g_VR hn 3 dX6_writeProgram_29 fl_X6_19 (by decide) rfl ?_
      refine wa_bipush (x := 44) dX6_writeProgram_32 (by decide) ?_
      refine WA_k (Nat.zero_add _) (Nat.zero_add _) ?_
      refine ap_C (K0 := 0) (Z0 := 0) dX6_writeProgram_34 lk_X6_295 hn hw hn1 (by decide) (by decide) (by decide) (by decide) (by simp only [List.length_cons, List.length_nil]; omega) (by exact Nat.le_of_ble_eq_true rfl) (fun n1 S1 j1 f1 k1 z1 b1 w1 => ?_)
      rw [Nat.zero_add, Nat.zero_add]
      obtain ⟨hn1, hm1, hk1, hz1⟩ := w1.lt h0 h7
      have hP1 := ((h.b w1.f (Or.inr (by decide))).lvT hq).rp
      refine wa_pop dX6_writeProgram_37 rfl ?_
      refine wa_aload_n dX6_writeProgram_38 rfl ?_
      refine g_VR hn1 3 dX6_writeProgram_39 fl_X6_19 (by decide) rfl ?_
      refine wa_aload_n dX6_writeProgram_42 rfl ?_
      refine g_RO hR hn1 13 dX6_writeProgram_43 fl_X6_194 (by decide) rfl ?_
      refine wa_iload_n dX6_writeProgram_46 rfl ?_
      refine s_iald (j := i) hR.prg dX6_writeProgram_47 (lt_R2 hR hn1) (nI_toInt (by omega)) (by omega) ?_
      rw [show S1.1 ((34 + 5 + 3 * q) + 2) i = nI (1000 * s) + (pg g q) s from by rw [← hs3]; exact hP1.2.2 s hs1 hs2, ev, nI_addS]
      refine wa_sipush (x := 1000) dX6_writeProgram_48 (by decide) ?_
      refine wa_idiv dX6_writeProgram_51 (by decide) ?_
      rw [show nI (1000 * s + (pg g q s).toInt.toNat) / 1000 = nI s from (nI_div (b := 1000) (by omega) (by decide) (by decide)).trans (congrArg nI (by omega))]
      refine WA_k (Nat.zero_add _) (Nat.zero_add _) ?_
      refine ap_I (K0 := 0) (Z0 := 0) dX6_writeProgram_52 lk_X6_312 hn1 w1 hm1 (by decide) (by decide) (by decide) (by rw [nI_toInt (by omega)]; omega) (by simp only [List.length_append, List.length_cons, List.length_nil]; omega) (by exact Nat.le_of_ble_eq_true rfl) (fun n2 S2 j2 f2 k2 z2 b2 w2 => ?_)
      rw [Nat.zero_add, Nat.zero_add]
      obtain ⟨hn2, hm2, hk2, hz2⟩ := w2.lt h0 h7
      have hP2 := ((h.b w2.f (Or.inr (by decide))).lvT hq).rp
      refine wa_bipush (x := 58) dX6_writeProgram_55 (by decide) ?_
      refine WA_k (Nat.zero_add _) (Nat.zero_add _) ?_
      refine ap_C (K0 := 0) (Z0 := 0) dX6_writeProgram_57 lk_X6_295 hn2 w2 hm2 (by decide) (by decide) (by decide) (by decide) (by simp only [List.length_append, List.length_cons, List.length_nil]; omega) (by exact Nat.le_of_ble_eq_true rfl) (fun n3 S3 j3 f3 k3 z3 b3 w3 => ?_)
      rw [Nat.zero_add, Nat.zero_add]
      obtain ⟨hn3, hm3, hk3, hz3⟩ := w3.lt h0 h7
      have hP3 := ((h.b w3.f (Or.inr (by decide))).lvT hq).rp
      refine wa_aload_n dX6_writeProgram_60 rfl ?_
      refine g_RO hR hn3 13 dX6_writeProgram_61 fl_X6_194 (by decide) rfl ?_
      refine wa_iload_n dX6_writeProgram_64 rfl ?_
      refine s_iald (j := i) hR.prg dX6_writeProgram_65 (lt_R2 hR hn3) (nI_toInt (by omega)) (by omega) ?_
      rw [show S3.1 ((34 + 5 + 3 * q) + 2) i = nI (1000 * s) + (pg g q) s from by rw [← hs3]; exact hP3.2.2 s hs1 hs2, ev, nI_addS]
      refine wa_sipush (x := 1000) dX6_writeProgram_66 (by decide) ?_
      refine wa_irem dX6_writeProgram_69 (by decide) ?_
      rw [show nI (1000 * s + (pg g q s).toInt.toNat) - nI (1000 * s + (pg g q s).toInt.toNat) / 1000 * 1000 = nI (pg g q s).toInt.toNat from (nI_rem (b := 1000) (by omega) (by decide) (by decide)).trans (congrArg nI (by omega)), ← ev]
      refine WA_k (Nat.zero_add _) (Nat.zero_add _) ?_
      refine ap_I (K0 := 0) (Z0 := 0) dX6_writeProgram_70 lk_X6_312 hn3 w3 hm3 (by decide) (by decide) (by decide) (by omega) (by simp only [List.length_append, List.length_cons, List.length_nil]; omega) (by exact Nat.le_of_ble_eq_true rfl) (fun n4 S4 j4 f4 k4 z4 b4 w4 => ?_)
      rw [Nat.zero_add, Nat.zero_add]
      obtain ⟨hn4, hm4, hk4, hz4⟩ := w4.lt h0 h7
      have hP4 := ((h.b w4.f (Or.inr (by decide))).lvT hq).rp
      refine wa_pop dX6_writeProgram_73 rfl ?_
      refine wa_iinc (y := 1) dX6_writeProgram_74 rfl (by decide) rfl ?_
      rw [nI_1 i]
      refine wa_goto 16 dX6_writeProgram_77 rfl ?_
      exact ih (i + 1) (s + 1) n4 S4 j4 f4 k4 z4 (by omega) (by omega) ((cnt_s1 hs2).trans (by omega)) (by rw [progT_1 hs2, esp]; exact w4) hQ
    have esp : (if 0 < (progT (pg g q) s).length then [44] else [] : List Int32) = [] := if_neg (fun z => hi0 (by have := hps.mp z; omega))
    refine wa_if_le 38 dX6_writeProgram_25 rfl (fun c25 => ?_) (fun c25 => absurd (show nI i ≤ nI 0 from nI_leN (by omega) (by omega)) c25)
    refine wa_aload_n dX6_writeProgram_38 rfl ?_
    refine g_VR hn 3 dX6_writeProgram_39 fl_X6_19 (by decide) rfl ?_
    refine wa_aload_n dX6_writeProgram_42 rfl ?_
    refine g_RO hR hn 13 dX6_writeProgram_43 fl_X6_194 (by decide) rfl ?_
    refine wa_iload_n dX6_writeProgram_46 rfl ?_
    refine s_iald (j := i) hR.prg dX6_writeProgram_47 (lt_R2 hR hn) (nI_toInt (by omega)) (by omega) ?_
    rw [show S.1 ((34 + 5 + 3 * q) + 2) i = nI (1000 * s) + (pg g q) s from by rw [← hs3]; exact hP.2.2 s hs1 hs2, ev, nI_addS]
    refine wa_sipush (x := 1000) dX6_writeProgram_48 (by decide) ?_
    refine wa_idiv dX6_writeProgram_51 (by decide) ?_
    rw [show nI (1000 * s + (pg g q s).toInt.toNat) / 1000 = nI s from (nI_div (b := 1000) (by omega) (by decide) (by decide)).trans (congrArg nI (by omega))]
    refine WA_k (Nat.zero_add _) (Nat.zero_add _) ?_
    refine ap_I (K0 := 0) (Z0 := 0) dX6_writeProgram_52 lk_X6_312 hn hw hn1 (by decide) (by decide) (by decide) (by rw [nI_toInt (by omega)]; omega) (by omega) (by exact Nat.le_of_ble_eq_true rfl) (fun n2 S2 j2 f2 k2 z2 b2 w2 => ?_)
    rw [Nat.zero_add, Nat.zero_add]
    obtain ⟨hn2, hm2, hk2, hz2⟩ := w2.lt h0 h7
    have hP2 := ((h.b w2.f (Or.inr (by decide))).lvT hq).rp
    refine wa_bipush (x := 58) dX6_writeProgram_55 (by decide) ?_
    refine WA_k (Nat.zero_add _) (Nat.zero_add _) ?_
    refine ap_C (K0 := 0) (Z0 := 0) dX6_writeProgram_57 lk_X6_295 hn2 w2 hm2 (by decide) (by decide) (by decide) (by decide) (by simp only [List.length_append, List.length_cons, List.length_nil]; omega) (by exact Nat.le_of_ble_eq_true rfl) (fun n3 S3 j3 f3 k3 z3 b3 w3 => ?_)
    rw [Nat.zero_add, Nat.zero_add]
    obtain ⟨hn3, hm3, hk3, hz3⟩ := w3.lt h0 h7
    have hP3 := ((h.b w3.f (Or.inr (by decide))).lvT hq).rp
    refine wa_aload_n dX6_writeProgram_60 rfl ?_
    refine g_RO hR hn3 13 dX6_writeProgram_61 fl_X6_194 (by decide) rfl ?_
    refine wa_iload_n dX6_writeProgram_64 rfl ?_
    refine s_iald (j := i) hR.prg dX6_writeProgram_65 (lt_R2 hR hn3) (nI_toInt (by omega)) (by omega) ?_
    rw [show S3.1 ((34 + 5 + 3 * q) + 2) i = nI (1000 * s) + (pg g q) s from by rw [← hs3]; exact hP3.2.2 s hs1 hs2, ev, nI_addS]
    refine wa_sipush (x := 1000) dX6_writeProgram_66 (by decide) ?_
    refine wa_irem dX6_writeProgram_69 (by decide) ?_
    rw [show nI (1000 * s + (pg g q s).toInt.toNat) - nI (1000 * s + (pg g q s).toInt.toNat) / 1000 * 1000 = nI (pg g q s).toInt.toNat from (nI_rem (b := 1000) (by omega) (by decide) (by decide)).trans (congrArg nI (by omega)), ← ev]
    refine WA_k (Nat.zero_add _) (Nat.zero_add _) ?_
    refine ap_I (K0 := 0) (Z0 := 0) dX6_writeProgram_70 lk_X6_312 hn3 w3 hm3 (by decide) (by decide) (by decide) (by omega) (by simp only [List.length_append, List.length_cons, List.length_nil]; omega) (by exact Nat.le_of_ble_eq_true rfl) (fun n4 S4 j4 f4 k4 z4 b4 w4 => ?_)
    rw [Nat.zero_add, Nat.zero_add]
    obtain ⟨hn4, hm4, hk4, hz4⟩ := w4.lt h0 h7
    have hP4 := ((h.b w4.f (Or.inr (by decide))).lvT hq).rp
    refine wa_pop dX6_writeProgram_73 rfl ?_
    refine wa_iinc (y := 1) dX6_writeProgram_74 rfl (by decide) rfl ?_
    rw [nI_1 i]
    refine wa_goto 16 dX6_writeProgram_77 rfl ?_
    exact ih (i + 1) (s + 1) n4 S4 j4 f4 k4 z4 (by omega) (by omega) ((cnt_s1 hs2).trans (by omega)) (by rw [progT_1 hs2, esp, List.append_nil]; exact w4) hQ
theorem vr_writeProgram {n0 m0 j0 q : Nat} {S0 : SS} {g f0 : Nat → Int32} {T : Int} (h0 : 279 ≤ n0) (h7 : n0 + 7 ≤ ab_CB) (h : HH S0 34 g (fun _ => True)) (hg : GG T g) (hb0 : SBI n0 S0 m0 j0 f0) (hj5 : j0 ≤ 5) (hq : q < rn g) : AM yX6_writeProgram cX6_writeProgram 4 (some .int) [] 6 5 1200 [.ref 0, .int (nI q)] n0 (Hp S0) (PMe n0 5 (fun v n' S' => v = nI (progT (pg g q) 48).length ∧ WRO n0 S0 (progT (pg g q) 48) n' S')) := by
  intro has
  change WA RX6 cX6_writeProgram 4 [] _ _ 0 0 0 [some (.ref 0), some (.int (nI q)), none, none] [] n0 _
  have h6 := hg.rn6
  have e0 := hg.e0
  refine wa_aload_n dX6_writeProgram_0 rfl ?_
  refine wa_iload_n dX6_writeProgram_1 rfl ?_
  refine c_VA dX6_writeProgram_2 (vr_roomAt h0 h (i := q) (by omega) (by rw [e0]; exact nI_lt hq (by omega))) lk_X6_134 rfl (isO_VR _ _ _) rfl (ltS h0) ?_
  refine wa_astore_n dX6_writeProgram_5 rfl ?_
  refine wa_aload_n dX6_writeProgram_6 rfl ?_
  refine g_VR h0 3 dX6_writeProgram_7 fl_X6_19 (by decide) rfl ?_
  refine wa_iconst (x := 0) dX6_writeProgram_10 (by decide) ?_
  refine wa_callV dX6_writeProgram_11 lk_X6_292 (sb_setLength h0 hb0 (by omega) (by omega)) rfl (isO_SB _ _ _) rfl (Or.inl (ltS h0)) (by exact Nat.le_of_ble_eq_true rfl) (by unfold ab_fit ab_rm; refine ⟨?_, ?_, ?_, ?_⟩ <;> simp <;> omega) (by exact Nat.le_of_ble_eq_true rfl) (fun ro n' h' hq2 _ => ?_) (fun E n' h' q _ => by cases q.1)
  obtain ⟨q1, S1, q2, q3, q4, f1, q5⟩ := hq2
  rw [q2, q3]
  cases q1
  refine wa_iconst (x := 0) dX6_writeProgram_14 (by decide) ?_
  refine wa_istore_n dX6_writeProgram_15 rfl ?_
  exact lpv_wprog h0 h7 (h.b q4 (Or.inr (by decide))) hg hq (cnt (pg g q) 48) 0 0 n0 S1 j0 f1 _ _ (Nat.zero_add _) (by decide) rfl (WB.st q5 hj5 rfl) (fun n' S' j' f' k' z' w => by
    obtain ⟨a1, a2, a3, a4⟩ := w.lt h0 h7
    have a5 := w.2.2.2.1
    exact ⟨a3, a4, ⟨_, rfl, rfl⟩, _, S', rfl, rfl, by omega, by omega, rfl, q4.tr w.f (Nat.le_refl _), j', f', ⟨w.1, w.2.2.2.2.2.2⟩, w.2.1⟩)
