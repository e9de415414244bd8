/-! ValveRoom: writeOneRoom. Written by program (wip/whole/gen/m852.py) but for the heads. -/
theorem WB.lt {n0 n k z j : Nat} {S0 S : SS} {f : Nat → Int32} {l : List Int32} (h : WB n0 S0 n S j f l k z) (h0 : 279 ≤ n0) (h1 : n0 + 7 ≤ ab_CB) : 279 ≤ n ∧ n + 1 < ab_CB ∧ k ≤ 5 ∧ z ≤ 1200 := by
  obtain ⟨a, b, c, d, e1, e2, e3⟩ := h
  have : cpS j ≤ 574 := (by decide : ∀ i, i < 6 → cpS i ≤ 574) j (by omega)
  omega
theorem WB.f {n0 n k z j : Nat} {S0 S : SS} {f : Nat → Int32} {l : List Int32} (h : WB n0 S0 n S j f l k z) : FRb n0 S0 S := h.2.2.1
/-- what a room's text is, behind l -/
def oneT (l : List Int32) (g : Nat → Int32) (i : Nat) : List Int32 := l ++ nmr g i ++ [58] ++ decI (of g i 0) ++ [62] ++ decI (tgt g i) ++ [47] ++ decI (of g i 1) ++ (if of g i 5 = 1 then [119] else []) ++ (if of g i 6 = 0 then [110] else []) ++ (if 0 < of g i 7 then [109] else [])
theorem WA_k {Xx : ab_X} {own : String} {cc : ByteArray} {nL : Nat} {hh : List (Nat × Nat × Nat × Nat)} {R : Room} {Q : ab_Q} {k k' z z' pc : Nat} {ls : List (Option Value)} {st : List Value} {n : Nat} {h : ab_H} (e1 : k' = k) (e2 : z' = z) (hw : WX Xx own cc nL hh R Q k' z' pc ls st n h) : WX Xx own cc nL hh R Q k z pc ls st n h := by
  subst e1
  subst e2
  exact hw
theorem lpw_c {Q : ab_Q} {n0 n j i k z : Nat} {S0 S : SS} {g f : Nat → Int32} {T : Int} {l : List Int32} (h0 : 279 ≤ n0) (h7 : n0 + 7 ≤ ab_CB) (h : HH S0 34 g (fun _ => True)) (hg : GG T g) (hi : i < rn g) (hw : WB n0 S0 n S j f l k z) (hl5 : l.length ≤ 490) (hQ : ∀ n' S' j' f' k' z', n ≤ n' → WB n0 S0 n' S' j' f' (l ++ (if 0 < of g i 7 then [109] else [])) k' z' → Q (.inl none) k' z' n' (Hp S')) : WA RX6 cX6_writeOneRoom 2 [] (ab_rm 6 5 1200) Q k z 96 [some (.ref 0), some (.ref (34 + 5 + 3 * i))] [] n (Hp S) := by
  obtain ⟨hn, hn1, -, -⟩ := hw.lt h0 h7
  have h6 := hg.rn6
  have hR : isR (34 + 5 + 3 * i) := isH_house.R (by omega)
  have hl := (h.b hw.f (Or.inr (by decide))).lvT hi
  refine wa_aload_n dX6_writeOneRoom_96 rfl ?_
  refine g_RO hR hn 8 dX6_writeOneRoom_97 fl_X6_162 (by decide) (v := .int (of g i 7)) (congrArg (fun x => some (Value.int x)) (hl.n (w := 7) (by decide))) ?_
  by_cases hc : 0 < of g i 7
  · rw [if_pos hc] at hQ
    refine wa_if_le 113 dX6_writeOneRoom_100 rfl (fun c100 => absurd hc (Int32.not_lt.mpr c100)) (fun c100 => ?_)
    refine wa_aload_n dX6_writeOneRoom_103 rfl ?_
    refine g_VR hn 3 dX6_writeOneRoom_104 fl_X6_19 (by decide) rfl ?_
    refine wa_bipush (x := 109) dX6_writeOneRoom_107 (by decide) ?_
    refine WA_k (Nat.zero_add _) (Nat.zero_add _) ?_
    refine ap_C (K0 := 0) (Z0 := 0) dX6_writeOneRoom_109 lk_X6_295 hn hw hn1 (by decide) (by decide) (by decide) (by decide) (by simp only [List.length_cons, List.length_nil]; omega) (by exact Nat.le_of_ble_eq_true rfl) (fun n1 S1 j1 f1 k1 z1 b1 w1 => ?_)
    rw [Nat.zero_add, Nat.zero_add]
    refine wa_pop dX6_writeOneRoom_112 rfl ?_
    exact wa_return dX6_writeOneRoom_113 (hQ _ _ _ _ _ _ b1 w1)
  · rw [if_neg hc, List.append_nil] at hQ
    refine wa_if_le 113 dX6_writeOneRoom_100 rfl (fun c100 => ?_) (fun c100 => absurd (Int32.not_lt.mp hc) c100)
    exact wa_return dX6_writeOneRoom_113 (hQ _ _ _ _ _ _ (Nat.le_refl _) hw)
theorem lpw_b {Q : ab_Q} {n0 n j i k z : Nat} {S0 S : SS} {g f : Nat → Int32} {T : Int} {l : List Int32} (h0 : 279 ≤ n0) (h7 : n0 + 7 ≤ ab_CB) (h : HH S0 34 g (fun _ => True)) (hg : GG T g) (hi : i < rn g) (hw : WB n0 S0 n S j f l k z) (hl5 : l.length ≤ 489) (hQ : ∀ n' S' j' f' k' z', n ≤ n' → WB n0 S0 n' S' j' f' (l ++ ((if of g i 6 = 0 then [110] else []) ++ (if 0 < of g i 7 then [109] else []))) k' z' → Q (.inl none) k' z' n' (Hp S')) : WA RX6 cX6_writeOneRoom 2 [] (ab_rm 6 5 1200) Q k z 79 [some (.ref 0), some (.ref (34 + 5 + 3 * i))] [] n (Hp S) := by
  obtain ⟨hn, hn1, -, -⟩ := hw.lt h0 h7
  have h6 := hg.rn6
  have hR : isR (34 + 5 + 3 * i) := isH_house.R (by omega)
  have hl := (h.b hw.f (Or.inr (by decide))).lvT hi
  refine wa_aload_n dX6_writeOneRoom_79 rfl ?_
  refine g_RO hR hn 7 dX6_writeOneRoom_80 fl_X6_159 (by decide) (v := .int (of g i 6)) (congrArg (fun x => some (Value.int x)) (hl.n (w := 6) (by decide))) ?_
  by_cases hc : of g i 6 = 0
  · rw [if_pos hc] at hQ
    refine wa_if_ne 96 dX6_writeOneRoom_83 rfl (fun c83 => absurd hc c83) (fun c83 => ?_)
    refine wa_aload_n dX6_writeOneRoom_86 rfl ?_
    refine g_VR hn 3 dX6_writeOneRoom_87 fl_X6_19 (by decide) rfl ?_
    refine wa_bipush (x := 110) dX6_writeOneRoom_90 (by decide) ?_
    refine WA_k (Nat.zero_add _) (Nat.zero_add _) ?_
    refine ap_C (K0 := 0) (Z0 := 0) dX6_writeOneRoom_92 lk_X6_295 hn hw hn1 (by decide) (by decide) (by decide) (by decide) (by simp only [List.length_cons, List.length_nil]; omega) (by exact Nat.le_of_ble_eq_true rfl) (fun n1 S1 j1 f1 k1 z1 b1 w1 => ?_)
    rw [Nat.zero_add, Nat.zero_add]
    refine wa_pop dX6_writeOneRoom_95 rfl ?_
    exact lpw_c h0 h7 h hg hi w1 (by simp only [List.length_append, List.length_cons, List.length_nil]; omega) (fun n' S' j' f' k' z' b2 w2 => hQ n' S' j' f' k' z' (by omega) (by rw [← List.append_assoc]; exact w2))
  · rw [if_neg hc, List.nil_append] at hQ
    refine wa_if_ne 96 dX6_writeOneRoom_83 rfl (fun c83 => ?_) (fun c83 => absurd c83 hc)
    exact lpw_c h0 h7 h hg hi hw (by omega) hQ
theorem lpw_a {Q : ab_Q} {n0 n j i k z : Nat} {S0 S : SS} {g f : Nat → Int32} {T : Int} {l : List Int32} (h0 : 279 ≤ n0) (h7 : n0 + 7 ≤ ab_CB) (h : HH S0 34 g (fun _ => True)) (hg : GG T g) (hi : i < rn g) (hw : WB n0 S0 n S j f l k z) (hl5 : l.length ≤ 488) (hQ : ∀ n' S' j' f' k' z', n ≤ n' → WB n0 S0 n' S' j' f' (l ++ ((if of g i 5 = 1 then [119] else []) ++ ((if of g i 6 = 0 then [110] else []) ++ (if 0 < of g i 7 then [109] else [])))) k' z' → Q (.inl none) k' z' n' (Hp S')) : WA RX6 cX6_writeOneRoom 2 [] (ab_rm 6 5 1200) Q k z 62 [some (.ref 0), some (.ref (34 + 5 + 3 * i))] [] n (Hp S) := by
  obtain ⟨hn, hn1, -, -⟩ := hw.lt h0 h7
  have h6 := hg.rn6
  have hR : isR (34 + 5 + 3 * i) := isH_house.R (by omega)
  have hl := (h.b hw.f (Or.inr (by decide))).lvT hi
  refine wa_aload_n dX6_writeOneRoom_62 rfl ?_
  refine g_RO hR hn 6 dX6_writeOneRoom_63 fl_X6_155 (by decide) (v := .int (of g i 5)) (congrArg (fun x => some (Value.int x)) (hl.n (w := 5) (by decide))) ?_
  by_cases hc : of g i 5 = 1
  · rw [if_pos hc] at hQ
    refine wa_if_eq 79 dX6_writeOneRoom_66 rfl (fun c66 => absurd c66 (by rw [hc]; decide)) (fun c66 => ?_)
    refine wa_aload_n dX6_writeOneRoom_69 rfl ?_
    refine g_VR hn 3 dX6_writeOneRoom_70 fl_X6_19 (by decide) rfl ?_
    refine wa_bipush (x := 119) dX6_writeOneRoom_73 (by decide) ?_
    refine WA_k (Nat.zero_add _) (Nat.zero_add _) ?_
    refine ap_C (K0 := 0) (Z0 := 0) dX6_writeOneRoom_75 lk_X6_295 hn hw hn1 (by decide) (by decide) (by decide) (by decide) (by simp only [List.length_cons, List.length_nil]; omega) (by exact Nat.le_of_ble_eq_true rfl) (fun n1 S1 j1 f1 k1 z1 b1 w1 => ?_)
    rw [Nat.zero_add, Nat.zero_add]
    refine wa_pop dX6_writeOneRoom_78 rfl ?_
    exact lpw_b h0 h7 h hg hi w1 (by simp only [List.length_append, List.length_cons, List.length_nil]; omega) (fun n' S' j' f' k' z' b2 w2 => hQ n' S' j' f' k' z' (by omega) (by rw [← List.append_assoc]; exact w2))
  · rw [if_neg hc, List.nil_append] at hQ
    refine wa_if_eq 79 dX6_writeOneRoom_66 rfl (fun c66 => ?_) (fun c66 => absurd (Or.resolve_right (hg.opn hi) hc) c66)
    exact lpw_b h0 h7 h hg hi hw (by omega) hQ
theorem vr_writeOneRoom {n j i len : Nat} {S : SS} {g f fs : Nat → Int32} {T : Int} {l : List Int32} (hn : 279 ≤ n) (h7 : n + 7 ≤ ab_CB) (h : HH S 34 g (fun _ => True)) (hg : GG T g) (hi : i < rn g) (hw0 : WB n S n S j f l 0 0) (hX : STX n S (S.2.1 (34 + 5 + 3 * i)) len fs) (hlx : (nmr g i).length = len ∧ ∀ q c, (nmr g i)[q]? = some c → fs q = c) (hl6 : len ≤ 6) (hr : (of g i 0).toInt.natAbs < 100000000 ∧ (tgt g i).toInt.natAbs < 100000000 ∧ (of g i 1).toInt.natAbs < 100000000) (hl5 : l.length + 45 ≤ 490) : AM yX6_writeOneRoom cX6_writeOneRoom 2 none [] 6 5 1200 [.ref 0, .ref (34 + 5 + 3 * i)] n (Hp S) (fun r n' h' => r = .inl none ∧ ∃ S', h' = Hp S' ∧ n ≤ n' ∧ ∃ j' f' k' z', WB n S n' S' j' f' (oneT l g i) k' z') := by
  intro has
  change WA RX6 cX6_writeOneRoom 2 [] _ _ 0 0 0 [some (.ref 0), some (.ref (34 + 5 + 3 * i))] [] n _
  have h6 := hg.rn6
  have hR : isR (34 + 5 + 3 * i) := isH_house.R (by omega)
  have hl := h.lvT hi
  have hw : WB n S n S j f l 0 0 := hw0
  obtain ⟨-, hn1, -, -⟩ := hw.lt hn h7
  have t1 := decI_11 hr.1
  have t2 := decI_11 hr.2.1
  have t3 := decI_11 hr.2.2
  refine wa_aload_n dX6_writeOneRoom_0 rfl ?_
  refine g_VR (by assumption) 3 dX6_writeOneRoom_1 fl_X6_19 (by decide) rfl ?_
  refine wa_aload_n dX6_writeOneRoom_4 rfl ?_
  refine g_RO hR hn 0 dX6_writeOneRoom_5 fl_X6_305 (by decide) rfl ?_
  refine WA_k (Nat.zero_add _) (Nat.zero_add _) ?_
  refine ap_S (K0 := 0) (Z0 := 0) dX6_writeOneRoom_8 lk_X6_309 hn hw hn1 (by decide) (by decide) (by decide) hX hlx (by rw [hlx.1]; omega) (by exact Nat.le_of_ble_eq_true rfl) (fun n1 S1 j1 f1 k1 z1 b1 w1 => ?_)
  rw [Nat.zero_add, Nat.zero_add]
  obtain ⟨hn1, hm1, hk1, hz1⟩ := w1.lt hn h7
  have hl1 := (h.b w1.f (Or.inr (by decide))).lvT hi
  refine wa_bipush (x := 58) dX6_writeOneRoom_11 (by decide) ?_
  refine WA_k (Nat.zero_add _) (Nat.zero_add _) ?_
  refine ap_C (K0 := 0) (Z0 := 0) dX6_writeOneRoom_13 lk_X6_295 hn1 w1 hm1 (by decide) (by decide) (by decide) (by decide) (by simp only [List.length_append, List.length_cons, List.length_nil]; omega) (by exact Nat.le_of_ble_eq_true rfl) (fun n2 S2 j2 f2 k2 z2 b2 w2 => ?_)
  rw [Nat.zero_add, Nat.zero_add]
  obtain ⟨hn2, hm2, hk2, hz2⟩ := w2.lt hn h7
  have hl2 := (h.b w2.f (Or.inr (by decide))).lvT hi
  refine wa_aload_n dX6_writeOneRoom_16 rfl ?_
  refine g_RO hR hn2 1 dX6_writeOneRoom_17 fl_X6_138 (by decide) (v := .int (of g i 0)) (congrArg (fun x => some (Value.int x)) (hl2.n (w := 0) (by decide))) ?_
  refine WA_k (Nat.zero_add _) (Nat.zero_add _) ?_
  refine ap_I (K0 := 0) (Z0 := 0) dX6_writeOneRoom_20 lk_X6_312 hn2 w2 hm2 (by decide) (by decide) (by decide) hr.1 (by simp only [List.length_append, List.length_cons, List.length_nil]; omega) (by exact Nat.le_of_ble_eq_true rfl) (fun n3 S3 j3 f3 k3 z3 b3 w3 => ?_)
  rw [Nat.zero_add, Nat.zero_add]
  obtain ⟨hn3, hm3, hk3, hz3⟩ := w3.lt hn h7
  have hl3 := (h.b w3.f (Or.inr (by decide))).lvT hi
  refine wa_pop dX6_writeOneRoom_23 rfl ?_
  refine wa_aload_n dX6_writeOneRoom_24 rfl ?_
  refine g_VR hn3 3 dX6_writeOneRoom_25 fl_X6_19 (by decide) rfl ?_
  refine wa_bipush (x := 62) dX6_writeOneRoom_28 (by decide) ?_
  refine WA_k (Nat.zero_add _) (Nat.zero_add _) ?_
  refine ap_C (K0 := 0) (Z0 := 0) dX6_writeOneRoom_30 lk_X6_295 hn3 w3 hm3 (by decide) (by decide) (by decide) (by decide) (by simp only [List.length_append, List.length_cons, List.length_nil]; omega) (by exact Nat.le_of_ble_eq_true rfl) (fun n4 S4 j4 f4 k4 z4 b4 w4 => ?_)
  rw [Nat.zero_add, Nat.zero_add]
  obtain ⟨hn4, hm4, hk4, hz4⟩ := w4.lt hn h7
  have hl4 := (h.b w4.f (Or.inr (by decide))).lvT hi
  refine wa_aload_n dX6_writeOneRoom_33 rfl ?_
  refine g_VR hn4 4 dX6_writeOneRoom_34 fl_X6_26 (by decide) rfl ?_
  refine wa_aload_n dX6_writeOneRoom_37 rfl ?_
  refine c_VI dX6_writeOneRoom_38 (hh_targetOf hn4 hl4 hg.t0 (hg.pre hi)) lk_X6_178 rfl (isH.HO isH_house _ _ _) rfl (lt_HO isH_house hn4) ?_
  refine WA_k (Nat.zero_add _) (Nat.zero_add _) ?_
  refine ap_I (K0 := 0) (Z0 := 0) dX6_writeOneRoom_41 lk_X6_312 hn4 w4 hm4 (by decide) (by decide) (by decide) hr.2.1 (by simp only [List.length_append, List.length_cons, List.length_nil]; omega) (by exact Nat.le_of_ble_eq_true rfl) (fun n5 S5 j5 f5 k5 z5 b5 w5 => ?_)
  rw [Nat.zero_add, Nat.zero_add]
  obtain ⟨hn5, hm5, hk5, hz5⟩ := w5.lt hn h7
  have hl5 := (h.b w5.f (Or.inr (by decide))).lvT hi
  refine wa_pop dX6_writeOneRoom_44 rfl ?_
  refine wa_aload_n dX6_writeOneRoom_45 rfl ?_
  refine g_VR hn5 3 dX6_writeOneRoom_46 fl_X6_19 (by decide) rfl ?_
  refine wa_bipush (x := 47) dX6_writeOneRoom_49 (by decide) ?_
  refine WA_k (Nat.zero_add _) (Nat.zero_add _) ?_
  refine ap_C (K0 := 0) (Z0 := 0) dX6_writeOneRoom_51 lk_X6_295 hn5 w5 hm5 (by decide) (by decide) (by decide) (by decide) (by simp only [List.length_append, List.length_cons, List.length_nil]; omega) (by exact Nat.le_of_ble_eq_true rfl) (fun n6 S6 j6 f6 k6 z6 b6 w6 => ?_)
  rw [Nat.zero_add, Nat.zero_add]
  obtain ⟨hn6, hm6, hk6, hz6⟩ := w6.lt hn h7
  have hl6 := (h.b w6.f (Or.inr (by decide))).lvT hi
  refine wa_aload_n dX6_writeOneRoom_54 rfl ?_
  refine g_RO hR hn6 2 dX6_writeOneRoom_55 fl_X6_143 (by decide) (v := .int (of g i 1)) (congrArg (fun x => some (Value.int x)) (hl6.n (w := 1) (by decide))) ?_
  refine WA_k (Nat.zero_add _) (Nat.zero_add _) ?_
  refine ap_I (K0 := 0) (Z0 := 0) dX6_writeOneRoom_58 lk_X6_312 hn6 w6 hm6 (by decide) (by decide) (by decide) hr.2.2 (by simp only [List.length_append, List.length_cons, List.length_nil]; omega) (by exact Nat.le_of_ble_eq_true rfl) (fun n7 S7 j7 f7 k7 z7 b7 w7 => ?_)
  rw [Nat.zero_add, Nat.zero_add]
  obtain ⟨hn7, hm7, hk7, hz7⟩ := w7.lt hn h7
  have hl7 := (h.b w7.f (Or.inr (by decide))).lvT hi
  refine wa_pop dX6_writeOneRoom_61 rfl ?_
  exact lpw_a hn h7 h hg hi w7 (by simp only [List.length_append, List.length_cons, List.length_nil]; omega) (fun n' S' j' f' k' z' b8 w8 => by
    obtain ⟨-, -, c1, c2⟩ := w8.lt hn h7
    exact ⟨c1, c2, rfl, rfl, S', rfl, by omega, j', f', k', z', by
      rw [← List.append_assoc, ← List.append_assoc] at w8
      exact w8⟩)
